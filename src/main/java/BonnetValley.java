import java.util.Arrays;
import java.util.NoSuchElementException;

/**
 * An upland in which one sees only as far to either side as the brim of one's bonnet lets one.
 * What each call promises stands in shared/DOC.md, by the number of its promise.
 */
public final class BonnetValley {
    public static final int NONE = -1;

    private static final int WITHOUT = -2;
    private static final int MISSING = -3;
    private static final int BAD_LAW = -10000;
    private static final int NO_SUCH_COUNT = -100;

    private static final int MOST_PEOPLE = 8;
    private static final int MOST_THINGS = 8;
    private static final int MOST_SIDE = 7;
    private static final int MOST_FIELDS = 49;
    private static final int WAYS = 8;
    private static final int MOST_BRIM = 4;
    private static final int MOST_REACH = 9;
    private static final int MOST_HOURS = 60;
    private static final int FARTHEST_HOUR = 99;
    private static final int MOST_HEARD = 10;
    private static final int MOST_YEARS = 60;

    private final Signs text;
    private final Numbers told;
    private final Land land;
    private final Sight sight;
    private final State now;
    private final State before;
    private final State trial;
    private final History history;
    private final Lines lines;
    private final Plan plan;
    private final Route route;
    private final Turning turning;
    private final Games games;
    private long maybe;
    private int hearings;

    public BonnetValley() {
        text = new Signs();
        told = new Numbers();
        land = new Land();
        sight = new Sight(land);
        now = new State();
        before = new State();
        trial = new State();
        history = new History();
        lines = new Lines();
        plan = new Plan();
        route = new Route();
        turning = new Turning();
        games = new Games();
        maybe = -1L;
        hearings = 0;
    }

    // ---- the valley, people, things, light

    public int sign(int v) {
        return text.append(v) ? text.size() : NONE;
    }

    public boolean end(int n) {
        return text.cut(n);
    }

    public int valley() {
        int bad = land.read(text);
        text.clear();
        if (bad >= 0) {
            return -1 - bad;
        }
        now.clear();
        history.clear();
        forgetHearings();
        return land.fields();
    }

    public int people() {
        int come = lines.read(text, land, Lines.OF_PEOPLE, MOST_PEOPLE - now.persons);
        text.clear();
        for (int line = 0; line < come; line++) {
            int field = land.fieldAt(lines.digit(line, 0), lines.digit(line, 1));
            now.addPerson(field, lines.digit(line, 2), lines.digit(line, 3));
        }
        if (come > 0) {
            history.clear();
        }
        return come;
    }

    public int things() {
        int come = lines.read(text, land, Lines.OF_THINGS, MOST_THINGS - now.goods);
        text.clear();
        for (int line = 0; line < come; line++) {
            now.addThing(land.fieldAt(lines.digit(line, 0), lines.digit(line, 1)));
        }
        if (come > 0) {
            history.clear();
        }
        return come;
    }

    public int light() {
        int length = text.size();
        int bad = sight.readLight(text);
        text.clear();
        return bad >= 0 ? -1 - bad : length;
    }

    public int rule() {
        int bad = sight.other().read(text);
        text.clear();
        if (bad >= 0) {
            return -1 - bad;
        }
        sight.takeOther();
        return 0;
    }

    public int person(int person, int what) throws NoSuchElementException {
        if (!now.hasPerson(person)) {
            throw new NoSuchElementException();
        }
        switch (what) {
            case 0: return now.field[person];
            case 1: return now.facing[person];
            case 2: return now.brim[person];
            case 3: return now.knows[person];
            case 4: return sight.reach(now, person);
            case 5: return now.thingsOn(sight.viewOf(now, person));
            default: throw new NoSuchElementException();
        }
    }

    public int thing(int thing, int what) throws NoSuchElementException {
        if (!now.hasThing(thing)) {
            throw new NoSuchElementException();
        }
        switch (what) {
            case 0: return now.place[thing];
            case 1: return now.knowersOf(thing);
            case 2:
                sight.look(now);
                return sight.seersOf(now, now.place[thing]);
            default: throw new NoSuchElementException();
        }
    }

    public int sheet(int kind, int n, int f, int step) {
        if (kind < 0 || kind > 3 || n > MOST_PEOPLE) {
            return NONE;
        }
        if (kind == 3) {
            Arrays.fill(now.brim, 0);
            return MISSING;
        }
        if (n < 0) {
            return WITHOUT;
        }
        for (int i = 0; i < now.persons && i < MOST_PEOPLE; i++) {
            now.brim[i] = i < n ? sheetEntry(kind, f + i * step) : 0;
        }
        return now.brims();
    }

    private static int sheetEntry(int kind, int value) {
        int held = kind == 0 ? (byte) value : kind == 1 ? (short) value : value;
        return Math.max(0, Math.min(MOST_BRIM, held));
    }

    // ---- hours, turns, steps

    public int hours(int n) {
        if (n < 0 || n > MOST_HOURS) {
            return NONE;
        }
        before.copy(now);
        int known = remember(sight.pass(now, n));
        told.anew().add(known - before.known()).add(now.knownBySomebody());
        return known;
    }

    public int faces(int person, int v) {
        before.copy(now);
        return remember(turnTo(person, v));
    }

    public int steps(int person, int way) {
        before.copy(now);
        return remember(walk(person, way));
    }

    public int trims(int person, int v) {
        before.copy(now);
        return remember(trimTo(person, v));
    }

    public int puts(int thing, int field) {
        before.copy(now);
        return remember(putOn(thing, field));
    }

    public int day() {
        int bad = plan.read(text);
        text.clear();
        if (bad >= 0) {
            return -1 - bad;
        }
        before.copy(now);
        int done = 0;
        while (done < plan.acts() && act(done) >= 0) {
            done++;
        }
        if (done > 0) {
            history.push(before);
        }
        told.anew().add(done < plan.acts() ? 1 : 0).add(now.hour);
        return done;
    }

    public int undo() {
        return history.pop(now) ? history.size() : NONE;
    }

    /** All acts answer 0 or more when they were done, so that one test serves them all. */
    private int remember(int answer) {
        if (answer >= 0) {
            history.push(before);
        }
        return answer;
    }

    private int act(int i) {
        int who = plan.digit(i, 0);
        int what = plan.digit(i, 1);
        switch (plan.kind(i)) {
            case 'n': return sight.pass(now, who);
            case 'f': return turnTo(who, what);
            case 'g': return walk(who, what);
            case 'b': return trimTo(who, what);
            case 'p': return putOn(who, land.fieldAt(what, plan.digit(i, 2)));
            default: return NONE;
        }
    }

    private int turnTo(int person, int v) {
        if (!now.hasPerson(person) || !isWay(v)) {
            return NONE;
        }
        int turned = Land.eighthsBetween(now.facing[person], v);
        now.facing[person] = v;
        return turned;
    }

    private int walk(int person, int way) {
        if (!now.hasPerson(person) || !isWay(way)) {
            return NONE;
        }
        int field = land.beside(now.field[person], way);
        if (field < 0) {
            return WITHOUT;
        }
        now.field[person] = field;
        return field;
    }

    private int trimTo(int person, int v) {
        if (!now.hasPerson(person) || v < 0 || v > MOST_BRIM) {
            return NONE;
        }
        int was = now.brim[person];
        now.brim[person] = v;
        return was;
    }

    private int putOn(int thing, int field) {
        if (!now.hasThing(thing) || !land.holds(field)) {
            return NONE;
        }
        int was = now.place[thing];
        if (was == field) {
            return WITHOUT;
        }
        now.place[thing] = field;
        return was;
    }

    private static boolean isWay(int v) {
        return v >= 0 && v < WAYS;
    }

    // ---- who sees what

    public long sees(int person) {
        if (!now.hasPerson(person)) {
            return NONE;
        }
        long fields = sight.viewOf(now, person);
        told.anew().add(Long.bitCount(fields)).add(now.peopleOn(fields) & ~(1 << person));
        return fields;
    }

    public int seers(int field) {
        if (!land.holds(field)) {
            return NONE;
        }
        sight.look(now);
        int who = sight.seersOf(now, field);
        told.anew().add(Integer.bitCount(who)).add(now.thingsOn(1L << field));
        return who;
    }

    public long hidden() {
        long fields = land.free() & ~sight.look(now);
        told.anew().add(Long.bitCount(fields)).add(now.thingsOn(fields));
        return fields;
    }

    public int pairs() {
        sight.look(now);
        int met = 0;
        int telling = 0;
        int first = NONE;
        int second = NONE;
        for (int i = 0; i < now.persons; i++) {
            for (int j = i + 1; j < now.persons; j++) {
                if (!sight.meet(now, i, j)) {
                    continue;
                }
                if (met == 0) {
                    first = i;
                    second = j;
                }
                met++;
                telling += sight.tell(now, i, j) ? 1 : 0;
            }
        }
        told.anew().add(telling);
        if (met > 0) {
            told.add(first).add(second);
        }
        return met;
    }

    public int behind(int person) {
        if (!now.hasPerson(person)) {
            return NONE;
        }
        sight.look(now);
        int lookers = sight.seersOf(now, now.field[person]);
        int who = lookers & ~now.peopleOn(sight.view(person));
        told.anew().add(Integer.bitCount(who));
        return who;
    }

    public int widest() {
        if (now.persons == 0) {
            return WITHOUT;
        }
        sight.look(now);
        int wide = 0;
        int narrow = 0;
        for (int i = 1; i < now.persons; i++) {
            int much = Long.bitCount(sight.view(i));
            if (much > Long.bitCount(sight.view(wide))) {
                wide = i;
            }
            if (much < Long.bitCount(sight.view(narrow))) {
                narrow = i;
            }
        }
        told.anew().add(Long.bitCount(sight.view(wide)));
        told.add(narrow).add(Long.bitCount(sight.view(narrow)));
        return wide;
    }

    public int watch() {
        long seen = sight.look(now);
        int least = (1 << now.persons) - 1;
        for (int who = least - 1; who >= 0; who--) {
            boolean asFew = Integer.bitCount(who) <= Integer.bitCount(least);
            if (asFew && sight.viewTogether(now, who) == seen) {
                least = who;
            }
        }
        told.anew().add(least);
        return Integer.bitCount(least);
    }

    // ---- who learns what

    public int learns(int person, int thing) {
        if (!now.hasPerson(person) || !now.hasThing(thing)) {
            return NONE;
        }
        trial.copy(now);
        for (int hour = 0; hour <= FARTHEST_HOUR; hour++) {
            int knowers = trial.knowersOf(thing);
            if ((knowers >> person & 1) == 1) {
                told.anew().add(Integer.bitCount(knowers));
                return hour;
            }
            sight.pass(trial, 1);
        }
        return WITHOUT;
    }

    public int all() {
        trial.copy(now);
        int last = NONE;
        for (int hour = 0; hour <= FARTHEST_HOUR; hour++) {
            int lacking = trial.firstWhoLacks();
            if (lacking < 0) {
                told.anew().add(last);
                return hour;
            }
            last = lacking;
            sight.pass(trial, 1);
        }
        return WITHOUT;
    }

    public int ahead(int n) {
        if (n < 0 || n > FARTHEST_HOUR) {
            return NONE;
        }
        trial.copy(now);
        int known = sight.pass(trial, n);
        told.anew();
        for (int i = 0; i < trial.persons && i < MOST_PEOPLE; i++) {
            told.add(trial.knows[i]);
        }
        return known;
    }

    public int gossip(int person) {
        if (!now.hasPerson(person)) {
            return NONE;
        }
        sight.look(now);
        int who = 1 << person;
        int rounds = 0;
        for (int round = 0; round < now.persons; round++) {
            int next = sight.toldBy(now, who);
            if (next != who) {
                rounds++;
            }
            who = next;
        }
        told.anew().add(rounds);
        return who;
    }

    // ---- whom to turn

    public int eighths(int person, int field) {
        if (!now.hasPerson(person) || !land.holds(field)) {
            return NONE;
        }
        int reach = sight.reach(now, person);
        int fewest = WAYS;
        int facing = NONE;
        for (int v = 0; v < WAYS; v++) {
            int turn = Land.eighthsBetween(now.facing[person], v);
            if (turn < fewest && hasField(viewFacing(person, v, reach), field)) {
                fewest = turn;
                facing = v;
            }
        }
        if (facing < 0) {
            return WITHOUT;
        }
        told.anew().add(facing);
        return fewest;
    }

    public int turned() {
        for (int i = 0; i < now.persons; i++) {
            int reach = sight.reach(now, i);
            for (int v = 0; v < WAYS; v++) {
                turning.set(i, v, now.thingsOn(viewFacing(i, v, reach)));
            }
        }
        int fewest = turning.fewest(now);
        if (fewest < 0) {
            return WITHOUT;
        }
        turning.tellLeast(now, told.anew());
        return fewest;
    }

    public int best(int person) {
        if (!now.hasPerson(person)) {
            return NONE;
        }
        int reach = sight.reach(now, person);
        int facing = 0;
        int most = now.thingsOn(viewFacing(person, 0, reach));
        for (int v = 1; v < WAYS; v++) {
            int seen = now.thingsOn(viewFacing(person, v, reach));
            if (Integer.bitCount(seen) > Integer.bitCount(most)) {
                facing = v;
                most = seen;
            }
        }
        told.anew().add(most);
        return facing;
    }

    public int bears(int person, int field) {
        if (!now.hasPerson(person) || !land.holds(field)) {
            return NONE;
        }
        for (int brim = MOST_BRIM; brim >= 0; brim--) {
            if (hasField(sight.viewUnder(now, person, brim), field)) {
                told.anew().add(sight.reachUnder(now, person, brim));
                return brim;
            }
        }
        return WITHOUT;
    }

    private long viewFacing(int person, int facing, int reach) {
        if (!now.hasPerson(person)) {
            return 0;
        }
        return land.view(now.field[person], facing, now.brim[person], reach);
    }

    private static boolean hasField(long fields, int field) {
        return (fields >> field & 1L) == 1L;
    }

    // ---- round by the back

    public int back(int from, int to) {
        if (!land.holds(from) || !land.holds(to)) {
            return NONE;
        }
        int steps = route.find(land, from, to, ~sight.look(now));
        if (steps < 0) {
            return WITHOUT;
        }
        told.anew();
        for (int i = 0; i <= steps; i++) {
            told.add(route.field(i));
        }
        return steps;
    }

    public int open(int from, int to) {
        if (!land.holds(from) || !land.holds(to)) {
            return NONE;
        }
        int steps = route.find(land, from, to, -1L);
        if (steps < 0) {
            return WITHOUT;
        }
        long seen = sight.look(now);
        int watched = 0;
        for (int i = 0; i <= steps; i++) {
            watched += hasField(seen, route.field(i)) ? 1 : 0;
        }
        told.anew().add(watched);
        return steps;
    }

    // ---- lost things

    public int heard(int person, int is) {
        if (!now.hasPerson(person) || is < 0 || is > 1 || hearings >= MOST_HEARD) {
            return NONE;
        }
        long fields = sight.viewOf(now, person);
        maybe &= is == 1 ? fields : ~fields;
        hearings++;
        return hearings;
    }

    public int forget() {
        int were = hearings;
        forgetHearings();
        return were;
    }

    public long lost() {
        long fields = maybe & land.free();
        told.anew().add(Long.bitCount(fields));
        return fields;
    }

    public int asks() {
        long fields = maybe & land.free();
        if (fields == 0 || now.persons == 0) {
            return WITHOUT;
        }
        sight.look(now);
        int whom = 0;
        int fewest = MOST_FIELDS + 1;
        for (int i = 0; i < now.persons; i++) {
            int seen = Long.bitCount(fields & sight.view(i));
            int left = Math.max(seen, Long.bitCount(fields) - seen);
            if (left < fewest) {
                fewest = left;
                whom = i;
            }
        }
        told.anew().add(fewest);
        return whom;
    }

    private void forgetHearings() {
        maybe = -1L;
        hearings = 0;
    }

    // ---- storms, a game

    public int storm(int field, int k, int p) {
        if (!land.holds(field) || k < 0 || k > MOST_PEOPLE || p < 0 || p > Games.TENTHS) {
            return NONE;
        }
        games.startStorm();
        for (int i = 0; i < now.persons; i++) {
            int kept = hasField(sight.viewOf(now, i), field) ? Games.TENTHS - p : 0;
            int bare = hasField(sight.viewUnder(now, i, 0), field) ? p : 0;
            games.addLooker(kept + bare);
        }
        games.tellChance(k, told.anew());
        return 0;
    }

    public int cock(int n, int k) {
        if (n < 0 || n > Games.MOST_OFF || k < Games.LEAST_TURNS || k > Games.MOST_TURNS) {
            return NONE;
        }
        return games.winningTurn(n, k);
    }

    // ---- laws, rests, years

    public int law() {
        int bad = sight.other().read(text);
        text.clear();
        if (bad >= 0) {
            return BAD_LAW - bad;
        }
        int byIt = Long.bitCount(sight.lookBy(sight.other(), now));
        int byRule = Long.bitCount(sight.look(now));
        told.anew().add(byIt).add(byRule);
        return byIt - byRule;
    }

    public int rests(int v) {
        if (v < 0 || v > Games.MOST_WORTH) {
            return NONE;
        }
        return games.restingPairs(v, told.anew());
    }

    public int years(int seed, int n) {
        if (n < 1 || n > MOST_YEARS) {
            return NONE;
        }
        trial.copy(now);
        games.startDraws(seed);
        for (int i = 0; i < n; i++) {
            liveYear(trial);
        }
        told.anew().add(Long.bitCount(sight.look(trial))).add(trial.brims());
        return trial.known();
    }

    private void liveYear(State state) {
        int lot = games.draw(4);
        if (lot < 2) {
            sight.pass(state, 1);
            return;
        }
        if (state.persons == 0) {
            return;
        }
        int who = games.draw(state.persons);
        int way = games.draw(WAYS);
        if (!state.hasPerson(who)) {
            return;
        }
        if (lot == 2) {
            state.facing[who] = way;
            return;
        }
        int field = land.beside(state.field[who], way);
        if (field >= 0) {
            state.field[who] = field;
        }
    }

    // ---- kept

    public boolean keep(int i) {
        return history.hold(i, now);
    }

    public boolean again(int i) {
        return history.bring(i, now);
    }

    public int count(int what) {
        switch (what) {
            case 0: return land.rows();
            case 1: return land.columns();
            case 2: return now.persons;
            case 3: return now.goods;
            case 4: return now.hour;
            case 5: return sight.lightAt(now.hour);
            case 6: return now.known();
            case 7: return land.fields() - Long.bitCount(land.free());
            case 8: return Long.bitCount(sight.look(now));
            case 9: return hearings;
            case 10: return history.size();
            case 11: return told.size();
            case 12: return text.size();
            default: return NO_SUCH_COUNT;
        }
    }

    public long row(int i) throws NoSuchElementException {
        if (i < 0 || i >= told.size()) {
            throw new NoSuchElementException();
        }
        return told.at(i);
    }

    /** THE TEXT: a place behind its end holds -1, which no rule of reading takes for a sign. */
    private static final class Signs {
        private static final int ROOM = 80;

        private final int[] sign;
        private int size;

        Signs() {
            sign = new int[ROOM];
            size = 0;
        }

        boolean append(int v) {
            if (size < 0 || size + 4 > ROOM) {
                return false;
            }
            for (int i = 0; i < 4; i++) {
                sign[size + i] = v >>> (24 - 8 * i) & 255;
            }
            size += 4;
            return true;
        }

        boolean cut(int n) {
            if (n < 0 || n > size) {
                return false;
            }
            size = n;
            return true;
        }

        int at(int p) {
            return p >= 0 && p < size ? sign[p] : -1;
        }

        int digitAt(int p) {
            int c = at(p);
            return c >= '0' && c <= '9' ? c - '0' : -1;
        }

        int size() {
            return size;
        }

        void clear() {
            size = 0;
        }
    }

    /** The ROW. */
    private static final class Numbers {
        /** A way round has at most all FIELDS, and no other row is as long. */
        private static final int ROOM = MOST_FIELDS;

        private final long[] number;
        private int size;

        Numbers() {
            number = new long[ROOM];
            size = 0;
        }

        Numbers anew() {
            size = 0;
            return this;
        }

        Numbers add(long x) {
            if (size >= 0 && size < ROOM) {
                number[size] = x;
                size++;
            }
            return this;
        }

        int size() {
            return size;
        }

        long at(int i) {
            return i >= 0 && i < size ? number[i] : NONE;
        }
    }

    /** THE VALLEY, and what can be seen in it by whoever stands on a FIELD. */
    private static final class Land {
        private static final int[] DOWN = {-1, -1, 0, 1, 1, 1, 0, -1};
        private static final int[] RIGHT = {0, 1, 1, 1, 0, -1, -1, -1};

        private int rows;
        private int columns;
        private int size;
        private long rocks;
        private long surveyed;
        private final int[] rowOf;
        private final int[] columnOf;
        private final long[] toward;
        private final long[] within;

        Land() {
            rowOf = new int[MOST_FIELDS];
            columnOf = new int[MOST_FIELDS];
            toward = new long[MOST_FIELDS * WAYS];
            within = new long[MOST_FIELDS * MOST_SIDE];
            shape(3, 3, 0L);
        }

        /** The place of the sign that can't stand there, or below 0. */
        int read(Signs text) {
            int newRows = side(text, 0);
            if (newRows < 0) {
                return 0;
            }
            int newColumns = side(text, 1);
            if (newColumns < 0) {
                return 1;
            }
            long newRocks = 0;
            int fields = newRows * newColumns;
            for (int field = 0; field < fields; field++) {
                int c = text.at(2 + field);
                if (c != '.' && c != '#') {
                    return 2 + field;
                }
                if (c == '#') {
                    newRocks |= 1L << field;
                }
            }
            if (text.size() > 2 + fields) {
                return 2 + fields;
            }
            shape(newRows, newColumns, newRocks);
            return -1;
        }

        private static int side(Signs text, int p) {
            int digit = text.digitAt(p);
            return digit >= 3 && digit <= MOST_SIDE ? digit : -1;
        }

        private void shape(int newRows, int newColumns, long newRocks) {
            rows = newRows;
            columns = newColumns;
            rocks = newRocks;
            surveyed = 0;
            size = 0;
            for (int row = 0; row < rows; row++) {
                for (int column = 0; column < columns && size < MOST_FIELDS; column++) {
                    rowOf[size] = row;
                    columnOf[size] = column;
                    size++;
                }
            }
        }

        int rows() {
            return rows;
        }

        int columns() {
            return columns;
        }

        int fields() {
            return size;
        }

        boolean holds(int field) {
            return field >= 0 && field < size && field < MOST_FIELDS;
        }

        long free() {
            return (1L << size) - 1 & ~rocks;
        }

        int rowOf(int field) {
            return holds(field) ? rowOf[field] : NONE;
        }

        int columnOf(int field) {
            return holds(field) ? columnOf[field] : NONE;
        }

        int fieldAt(int row, int column) {
            boolean there = row >= 0 && row < rows && column >= 0 && column < columns;
            return there ? row * columns + column : NONE;
        }

        boolean isRock(int field) {
            return field >= 0 && hasField(rocks, field);
        }

        /** The FIELD that a step leads to, or NONE. */
        int beside(int field, int way) {
            if (!holds(field) || way < 0 || way >= WAYS) {
                return NONE;
            }
            int next = fieldAt(rowOf[field] + DOWN[way], columnOf[field] + RIGHT[way]);
            return isRock(next) ? NONE : next;
        }

        static int eighthsBetween(int a, int b) {
            int round = a - b & WAYS - 1;
            return Math.min(round, WAYS - round);
        }

        long view(int from, int facing, int brim, int reach) {
            if (!holds(from)) {
                return 0;
            }
            if (!hasField(surveyed, from)) {
                survey(from);
            }
            long fields = 0;
            for (int way = 0; way < WAYS; way++) {
                if (eighthsBetween(way, facing) <= 4 - brim) {
                    fields |= toward[from * WAYS + way];
                }
            }
            int far = Math.max(0, Math.min(MOST_SIDE - 1, reach));
            return fields & within[from * MOST_SIDE + far] | 1L << from;
        }

        /** Rocks stay where they are, so that what stands in the way is looked at once a FIELD. */
        private void survey(int from) {
            surveyed |= 1L << from;
            for (int way = 0; way < WAYS; way++) {
                toward[from * WAYS + way] = 0;
            }
            for (int d = 0; d < MOST_SIDE; d++) {
                within[from * MOST_SIDE + d] = 0;
            }
            for (int to = 0; to < size && to < MOST_FIELDS; to++) {
                if (to == from) {
                    continue;
                }
                int down = rowOf[to] - rowOf[from];
                int right = columnOf[to] - columnOf[from];
                int far = Math.max(Math.abs(down), Math.abs(right));
                for (int d = far; d < MOST_SIDE; d++) {
                    within[from * MOST_SIDE + d] |= 1L << to;
                }
                if (isClear(from, down, right)) {
                    toward[from * WAYS + wayOf(down, right)] |= 1L << to;
                }
            }
        }

        private boolean isClear(int from, int down, int right) {
            int far = Math.max(Math.abs(down), Math.abs(right));
            for (int i = 1; i < far; i++) {
                int row = rowOf[from] + Math.max(-i, Math.min(i, down));
                int column = columnOf[from] + Math.max(-i, Math.min(i, right));
                if ((rocks >> row * columns + column & 1L) == 1L) {
                    return false;
                }
            }
            return true;
        }

        private static int wayOf(int down, int right) {
            if (Math.abs(down) > 2 * Math.abs(right)) {
                return down < 0 ? 0 : 4;
            }
            if (Math.abs(right) > 2 * Math.abs(down)) {
                return right > 0 ? 2 : 6;
            }
            if (down < 0) {
                return right > 0 ? 1 : 7;
            }
            return right > 0 ? 3 : 5;
        }
    }

    /** PEOPLE, THINGS and HOUR: what undo() brings back. */
    private static final class State {
        int persons;
        int goods;
        int hour;
        final int[] field;
        final int[] facing;
        final int[] brim;
        final int[] knows;
        final int[] place;

        State() {
            field = new int[MOST_PEOPLE];
            facing = new int[MOST_PEOPLE];
            brim = new int[MOST_PEOPLE];
            knows = new int[MOST_PEOPLE];
            place = new int[MOST_THINGS];
            clear();
        }

        final void clear() {
            persons = 0;
            goods = 0;
            hour = 0;
        }

        void copy(State from) {
            persons = from.persons;
            goods = from.goods;
            hour = from.hour;
            System.arraycopy(from.field, 0, field, 0, MOST_PEOPLE);
            System.arraycopy(from.facing, 0, facing, 0, MOST_PEOPLE);
            System.arraycopy(from.brim, 0, brim, 0, MOST_PEOPLE);
            System.arraycopy(from.knows, 0, knows, 0, MOST_PEOPLE);
            System.arraycopy(from.place, 0, place, 0, MOST_THINGS);
        }

        void addPerson(int onField, int withFacing, int withBrim) {
            if (persons < 0 || persons >= MOST_PEOPLE) {
                return;
            }
            field[persons] = onField;
            facing[persons] = withFacing;
            brim[persons] = withBrim;
            knows[persons] = 0;
            persons++;
        }

        void addThing(int onField) {
            if (goods < 0 || goods >= MOST_THINGS) {
                return;
            }
            place[goods] = onField;
            goods++;
        }

        boolean hasPerson(int i) {
            return i >= 0 && i < persons && i < MOST_PEOPLE;
        }

        boolean hasThing(int i) {
            return i >= 0 && i < goods && i < MOST_THINGS;
        }

        int known() {
            int sum = 0;
            for (int i = 0; i < persons && i < MOST_PEOPLE; i++) {
                sum += Integer.bitCount(knows[i]);
            }
            return sum;
        }

        int knownBySomebody() {
            int bits = 0;
            for (int i = 0; i < persons && i < MOST_PEOPLE; i++) {
                bits |= knows[i];
            }
            return bits;
        }

        int knowersOf(int thing) {
            int bits = 0;
            for (int i = 0; i < persons && i < MOST_PEOPLE; i++) {
                bits |= (knows[i] >> thing & 1) << i;
            }
            return bits;
        }

        int firstWhoLacks() {
            for (int i = 0; i < persons && i < MOST_PEOPLE; i++) {
                if (knows[i] != (1 << goods) - 1) {
                    return i;
                }
            }
            return NONE;
        }

        int brims() {
            int sum = 0;
            for (int i = 0; i < persons && i < MOST_PEOPLE; i++) {
                sum += brim[i];
            }
            return sum;
        }

        int peopleOn(long fields) {
            int bits = 0;
            for (int i = 0; i < persons && i < MOST_PEOPLE; i++) {
                bits |= (int) (fields >> field[i] & 1L) << i;
            }
            return bits;
        }

        int thingsOn(long fields) {
            int bits = 0;
            for (int i = 0; i < goods && i < MOST_THINGS; i++) {
                bits |= (int) (fields >> place[i] & 1L) << i;
            }
            return bits;
        }
    }

    /** A RULE, turned when it is read into an order that needs no brackets, since it is reckoned often. */
    private static final class Formula {
        private static final int MOST_SIGNS = 40;
        private static final int MOST_BRACKETS = 4;
        private static final String LETTERS = "blkfrcnp";
        private static final int LETTER = 1000;
        /** Stands for - ahead of a thing, as no sign of an operator does. */
        private static final int NEGATE = 'm';

        private final int[] code;
        private int size;
        private final int[] waiting;
        private int waits;
        private final boolean[] compared;
        private int depth;
        private int digits;
        private boolean wantsThing;
        private final int[] stack;

        Formula() {
            code = new int[MOST_SIGNS];
            waiting = new int[MOST_SIGNS];
            compared = new boolean[MOST_BRACKETS + 1];
            stack = new int[MOST_SIGNS];
            start();
            takeDefault();
        }

        /** The place of the sign that can't stand there, or below 0. */
        int read(Signs text) {
            start();
            int length = text.size();
            if (length == 0) {
                takeDefault();
                return -1;
            }
            for (int p = 0; p < length; p++) {
                if (p == MOST_SIGNS || !take(text.at(p))) {
                    return p;
                }
            }
            if (wantsThing || depth > 0) {
                return length;
            }
            release(1);
            return -1;
        }

        private void start() {
            size = 0;
            waits = 0;
            depth = 0;
            digits = 0;
            wantsThing = true;
            compared[0] = false;
        }

        private void takeDefault() {
            emit(LETTER + LETTERS.indexOf('l'));
            emit(LETTER + LETTERS.indexOf('b'));
            emit(-'-');
        }

        private boolean take(int c) {
            if (c >= '0' && c <= '9') {
                return takeDigit(c - '0');
            }
            digits = 0;
            return wantsThing ? takeThing(c) : takeOperator(c);
        }

        private boolean takeDigit(int digit) {
            if (wantsThing) {
                emit(digit);
                digits = 1;
                wantsThing = false;
                return true;
            }
            if (digits < 1 || digits > 2 || size < 1) {
                return false;
            }
            code[size - 1] = code[size - 1] * 10 + digit;
            digits++;
            return true;
        }

        private boolean takeThing(int c) {
            if (c == '-') {
                hold(NEGATE);
                return true;
            }
            if (c == '(') {
                if (depth < 0 || depth >= MOST_BRACKETS) {
                    return false;
                }
                depth++;
                compared[depth] = false;
                hold('(');
                return true;
            }
            int letter = LETTERS.indexOf((char) c);
            if (letter < 0) {
                return false;
            }
            emit(LETTER + letter);
            wantsThing = false;
            return true;
        }

        private boolean takeOperator(int c) {
            if (c == ')') {
                return closeBracket();
            }
            int binding = bindingOf(c);
            if (binding == 0 || binding > 3 || depth < 0 || depth > MOST_BRACKETS) {
                return false;
            }
            if (binding == 1) {
                if (compared[depth]) {
                    return false;
                }
                compared[depth] = true;
            }
            release(binding);
            hold(c);
            wantsThing = true;
            return true;
        }

        private boolean closeBracket() {
            if (depth == 0) {
                return false;
            }
            depth--;
            release(1);
            if (waits > 0) {
                waits--;
            }
            return true;
        }

        /** An opening bracket binds 0, so that nothing is released beyond it. */
        private static int bindingOf(int operator) {
            switch (operator) {
                case '<':
                case '>':
                case '=': return 1;
                case '+':
                case '-': return 2;
                case '*':
                case '/': return 3;
                case NEGATE: return 4;
                default: return 0;
            }
        }

        private void release(int binding) {
            while (waits > 0 && bindingOf(waiting[waits - 1]) >= binding) {
                waits--;
                emit(-waiting[waits]);
            }
        }

        private void emit(int x) {
            if (size >= 0 && size < MOST_SIGNS) {
                code[size] = x;
                size++;
            }
        }

        private void hold(int operator) {
            if (waits >= 0 && waits < MOST_SIGNS) {
                waiting[waits] = operator;
                waits++;
            }
        }

        int value(int[] given) {
            int top = 0;
            for (int i = 0; i < size && i < MOST_SIGNS; i++) {
                int x = code[i];
                if (x >= 0 && top < MOST_SIGNS) {
                    boolean isLetter = x >= LETTER && x - LETTER < given.length;
                    stack[top] = isLetter ? given[x - LETTER] : x;
                    top++;
                } else if (x == -NEGATE && top > 0) {
                    stack[top - 1] = -stack[top - 1];
                } else if (top > 1) {
                    top--;
                    stack[top - 1] = combine(-x, stack[top - 1], stack[top]);
                }
            }
            return stack[0];
        }

        private static int combine(int operator, int a, int b) {
            switch (operator) {
                case '<': return a < b ? 1 : 0;
                case '>': return a > b ? 1 : 0;
                case '=': return a == b ? 1 : 0;
                case '+': return a + b;
                case '-': return a - b;
                case '*': return a * b;
                case '/': return b == 0 ? 0 : a / b;
                default: return 0;
            }
        }
    }

    /** Who SEES what by a RULE in the LIGHT of an HOUR, and what is learned so. */
    private static final class Sight {
        private static final int MOST_LIGHT = 20;

        private final Land land;
        private Formula rule;
        private Formula other;
        private final int[] light;
        private int lights;
        private final int[] given;
        private final long[] view;
        private final int[] learned;

        Sight(Land ofLand) {
            land = ofLand;
            rule = new Formula();
            other = new Formula();
            light = new int[MOST_LIGHT];
            light[0] = 9;
            lights = 1;
            given = new int[8];
            view = new long[MOST_PEOPLE];
            learned = new int[MOST_PEOPLE];
        }

        /** The place of the sign that can't stand there, or below 0. */
        int readLight(Signs text) {
            int length = text.size();
            if (length == 0) {
                return 0;
            }
            for (int p = 0; p < length; p++) {
                if (p == MOST_LIGHT || text.digitAt(p) < 0) {
                    return p;
                }
            }
            for (int p = 0; p < length && p < MOST_LIGHT; p++) {
                light[p] = text.digitAt(p);
            }
            lights = length;
            return -1;
        }

        int lightAt(int hour) {
            if (lights < 1 || lights > MOST_LIGHT || hour < 0) {
                return 0;
            }
            return light[hour % lights];
        }

        Formula other() {
            return other;
        }

        void takeOther() {
            Formula was = rule;
            rule = other;
            other = was;
        }

        int reach(State state, int person) {
            return state.hasPerson(person) ? reachBy(rule, state, person, state.brim[person]) : 0;
        }

        int reachUnder(State state, int person, int brim) {
            return state.hasPerson(person) ? reachBy(rule, state, person, brim) : 0;
        }

        private int reachBy(Formula formula, State state, int person, int brim) {
            int field = state.field[person];
            given[0] = brim;
            given[1] = lightAt(state.hour);
            given[2] = Integer.bitCount(state.knows[person]);
            given[3] = state.facing[person];
            given[4] = land.rowOf(field);
            given[5] = land.columnOf(field);
            given[6] = state.hour % 7;
            given[7] = Integer.bitCount(state.peopleOn(1L << field));
            return Math.max(0, Math.min(MOST_REACH, formula.value(given)));
        }

        long viewOf(State state, int person) {
            return state.hasPerson(person) ? viewUnder(state, person, state.brim[person]) : 0;
        }

        long viewUnder(State state, int person, int brim) {
            if (!state.hasPerson(person)) {
                return 0;
            }
            int reach = reachBy(rule, state, person, brim);
            return land.view(state.field[person], state.facing[person], brim, reach);
        }

        /** All FIELDS that somebody SEES; view() tells of each afterwards. */
        long look(State state) {
            return lookBy(rule, state);
        }

        long lookBy(Formula formula, State state) {
            long seen = 0;
            for (int i = 0; i < state.persons && i < MOST_PEOPLE; i++) {
                int reach = reachBy(formula, state, i, state.brim[i]);
                view[i] = land.view(state.field[i], state.facing[i], state.brim[i], reach);
                seen |= view[i];
            }
            return seen;
        }

        long view(int person) {
            return person >= 0 && person < MOST_PEOPLE ? view[person] : 0;
        }

        long viewTogether(State state, int who) {
            long seen = 0;
            for (int i = 0; i < state.persons && i < MOST_PEOPLE; i++) {
                if ((who >> i & 1) == 1) {
                    seen |= view[i];
                }
            }
            return seen;
        }

        int seersOf(State state, int field) {
            int bits = 0;
            for (int i = 0; i < state.persons && i < MOST_PEOPLE; i++) {
                bits |= (int) (view[i] >> field & 1L) << i;
            }
            return bits;
        }

        boolean meet(State state, int i, int j) {
            if (!state.hasPerson(i) || !state.hasPerson(j)) {
                return false;
            }
            return hasField(view[i], state.field[j]) && hasField(view[j], state.field[i]);
        }

        boolean tell(State state, int i, int j) {
            if (!meet(state, i, j)) {
                return false;
            }
            int down = land.rowOf(state.field[i]) - land.rowOf(state.field[j]);
            int right = land.columnOf(state.field[i]) - land.columnOf(state.field[j]);
            return Math.abs(down) <= 1 && Math.abs(right) <= 1;
        }

        /** Those who have heard after one more round. */
        int toldBy(State state, int who) {
            int next = who;
            for (int i = 0; i < state.persons; i++) {
                for (int j = 0; j < state.persons; j++) {
                    if ((who >> i & 1) == 1 && tell(state, i, j)) {
                        next |= 1 << j;
                    }
                }
            }
            return next;
        }

        /** How much all KNOW together when so many HOURS are over. */
        int pass(State state, int hours) {
            for (int h = 0; h < hours; h++) {
                lookBy(rule, state);
                for (int i = 0; i < state.persons && i < MOST_PEOPLE; i++) {
                    learned[i] = learnedBy(state, i);
                }
                for (int i = 0; i < state.persons && i < MOST_PEOPLE; i++) {
                    state.knows[i] = learned[i];
                }
                state.hour++;
            }
            return state.known();
        }

        /** Whoever has nothing new to tell is passed over first, since looking is dear over many HOURS. */
        private int learnedBy(State state, int person) {
            int bits = state.knows[person] | state.thingsOn(view[person]);
            for (int i = 0; i < state.persons && i < MOST_PEOPLE; i++) {
                if ((state.knows[i] & ~bits) != 0 && tell(state, person, i)) {
                    bits |= state.knows[i];
                }
            }
            return bits;
        }
    }

    /** What can be undone, and what is kept under numbers. */
    private static final class History {
        private static final int ROOM = 15;
        private static final int SHELVES = 3;

        private final State[] past;
        private int next;
        private int size;
        private final State[] shelf;
        private int filled;

        History() {
            past = new State[ROOM];
            for (int i = 0; i < ROOM; i++) {
                past[i] = new State();
            }
            shelf = new State[SHELVES];
            for (int i = 0; i < SHELVES; i++) {
                shelf[i] = new State();
            }
            filled = 0;
            next = 0;
            size = 0;
        }

        int size() {
            return size;
        }

        /** The oldest one is written over when there is no room. */
        void push(State state) {
            if (next < 0 || next >= ROOM) {
                return;
            }
            past[next].copy(state);
            next = next + 1 < ROOM ? next + 1 : 0;
            size = Math.min(ROOM, size + 1);
        }

        boolean pop(State into) {
            int latest = next > 0 ? next - 1 : ROOM - 1;
            if (size == 0 || latest >= ROOM) {
                return false;
            }
            into.copy(past[latest]);
            next = latest;
            size--;
            return true;
        }

        void clear() {
            size = 0;
            filled = 0;
        }

        boolean hold(int i, State state) {
            if (i < 0 || i >= SHELVES) {
                return false;
            }
            shelf[i].copy(state);
            filled |= 1 << i;
            return true;
        }

        boolean bring(int i, State into) {
            if (i < 0 || i >= SHELVES || (filled >> i & 1) == 0) {
                return false;
            }
            into.copy(shelf[i]);
            size = 0;
            return true;
        }
    }

    /** LINES of digits, as PEOPLE and THINGS are told. */
    private static final class Lines {
        private static final int OF_PEOPLE = 4;
        private static final int OF_THINGS = 2;
        private static final int MOST_LINES = 8;

        private final int[] digit;
        private final int[] bound;
        private int width;

        Lines() {
            digit = new int[MOST_LINES * OF_PEOPLE];
            bound = new int[OF_PEOPLE];
            bound[2] = WAYS;
            bound[3] = MOST_BRIM + 1;
            width = OF_PEOPLE;
        }

        int digit(int line, int i) {
            int p = line * width + i;
            return p >= 0 && p < digit.length ? digit[p] : NONE;
        }

        /** How many LINES there are, or -1 less the place of the sign that can't stand there. */
        int read(Signs text, Land land, int digits, int room) {
            width = digits;
            bound[0] = land.rows();
            bound[1] = land.columns();
            int length = text.size();
            if (length == 0) {
                return 0;
            }
            int p = 0;
            for (int line = 0; line < MOST_LINES && line < room; line++) {
                for (int i = 0; i < width; i++) {
                    if (!takeDigit(text.digitAt(p), line, i, land)) {
                        return -1 - p;
                    }
                    p++;
                }
                if (p == length) {
                    return line + 1;
                }
                if (line + 1 == MOST_LINES || text.at(p) != ';') {
                    return -1 - p;
                }
                p++;
            }
            return -1 - p;
        }

        private boolean takeDigit(int x, int line, int i, Land land) {
            int p = line * width + i;
            if (i < 0 || i >= bound.length || p < 0 || p >= digit.length) {
                return false;
            }
            if (x < 0 || x >= bound[i]) {
                return false;
            }
            digit[p] = x;
            boolean isPlaced = width == OF_PEOPLE && i == 1 && p > 0;
            return !isPlaced || !land.isRock(land.fieldAt(digit[p - 1], x));
        }
    }

    /** A DAY, read whole before anything of it is done. */
    private static final class Plan {
        private static final int MOST_SIGNS = 60;
        private static final int MOST_ACTS = 30;
        private static final int DIGITS = 3;

        private final int[] kind;
        private final int[] digit;
        private int acts;

        Plan() {
            kind = new int[MOST_ACTS];
            digit = new int[MOST_ACTS * DIGITS];
            acts = 0;
        }

        int acts() {
            return acts;
        }

        int kind(int i) {
            return i >= 0 && i < acts && i < MOST_ACTS ? kind[i] : NONE;
        }

        int digit(int i, int d) {
            boolean told = i >= 0 && i < acts && i < MOST_ACTS && d >= 0 && d < DIGITS;
            return told ? digit[i * DIGITS + d] : NONE;
        }

        /** The place of the sign that can't stand there, or below 0. */
        int read(Signs text) {
            acts = 0;
            int wanted = 0;
            int had = 0;
            int length = text.size();
            for (int p = 0; p < length; p++) {
                if (p == MOST_SIGNS) {
                    return p;
                }
                if (had < wanted) {
                    if (!takeDigit(text.digitAt(p), had)) {
                        return p;
                    }
                    had++;
                } else {
                    wanted = digitsOf(text.at(p));
                    if (wanted == 0 || !takeKind(text.at(p))) {
                        return p;
                    }
                    had = 0;
                }
            }
            return had < wanted ? length : -1;
        }

        private static int digitsOf(int c) {
            switch (c) {
                case 'n': return 1;
                case 'f':
                case 'g':
                case 'b': return 2;
                case 'p': return 3;
                default: return 0;
            }
        }

        private boolean takeKind(int c) {
            if (acts < 0 || acts >= MOST_ACTS) {
                return false;
            }
            kind[acts] = c;
            acts++;
            return true;
        }

        private boolean takeDigit(int x, int d) {
            int p = (acts - 1) * DIGITS + d;
            if (x < 0 || p < 0 || p >= digit.length) {
                return false;
            }
            digit[p] = x;
            return true;
        }
    }

    /** The shortest way between two FIELDS, of such the one of the least row. */
    private static final class Route {
        private static final int FAR = 1000;

        private final int[] away;
        private final int[] queue;
        private final int[] path;

        Route() {
            away = new int[MOST_FIELDS];
            queue = new int[MOST_FIELDS];
            path = new int[MOST_FIELDS];
        }

        int field(int i) {
            return i >= 0 && i < MOST_FIELDS ? path[i] : NONE;
        }

        /** How many steps, or NONE; only FIELDS of allowed lie between. */
        int find(Land land, int from, int to, long allowed) {
            boolean onLand = land.holds(from) && land.holds(to);
            if (!onLand || land.isRock(from) || land.isRock(to)) {
                return NONE;
            }
            measure(land, to, allowed | 1L << from);
            int steps = away[from];
            if (steps >= FAR) {
                return NONE;
            }
            path[0] = from;
            for (int i = 1; i <= steps && i < MOST_FIELDS; i++) {
                path[i] = leastNearer(land, path[i - 1], steps - i);
            }
            return steps;
        }

        private void measure(Land land, int to, long allowed) {
            Arrays.fill(away, FAR);
            away[to] = 0;
            queue[0] = to;
            int size = 1;
            for (int head = 0; head < size && head < MOST_FIELDS; head++) {
                for (int way = 0; way < WAYS; way++) {
                    int next = land.beside(queue[head], way);
                    boolean isNew = next >= 0 && next < MOST_FIELDS && away[next] == FAR;
                    if (isNew && size < MOST_FIELDS && hasField(allowed, next)) {
                        away[next] = away[queue[head]] + 1;
                        queue[size] = next;
                        size++;
                    }
                }
            }
        }

        private int leastNearer(Land land, int field, int left) {
            int least = MOST_FIELDS;
            for (int way = 0; way < WAYS; way++) {
                int next = land.beside(field, way);
                if (next >= 0 && next < least && away[next] == left) {
                    least = next;
                }
            }
            return least < MOST_FIELDS ? least : field;
        }
    }

    /** Whom to turn so that each THING is SEEN. */
    private static final class Turning {
        private static final int SETS = 256;
        private static final int NEVER = 100;

        private final int[] seen;
        private final int[] need;

        Turning() {
            seen = new int[MOST_PEOPLE * WAYS];
            need = new int[(MOST_PEOPLE + 1) * SETS];
        }

        void set(int person, int facing, int things) {
            int p = person * WAYS + facing;
            if (p >= 0 && p < seen.length) {
                seen[p] = things & SETS - 1;
            }
        }

        /** How many to turn, or NONE: need tells it for those from one on, by THINGS SEEN by those ahead. */
        int fewest(State state) {
            int full = (1 << state.goods) - 1 & SETS - 1;
            int persons = Math.max(0, Math.min(MOST_PEOPLE, state.persons));
            for (int things = 0; things <= full; things++) {
                need[persons * SETS + things] = things == full ? 0 : NEVER;
            }
            for (int i = persons - 1; i >= 0; i--) {
                for (int things = 0; things <= full; things++) {
                    need[i * SETS + things] = least(state, i, things);
                }
            }
            return need[0] < NEVER ? need[0] : NONE;
        }

        private int least(State state, int person, int things) {
            int least = NEVER;
            for (int v = 0; v < WAYS; v++) {
                least = Math.min(least, withFacing(state, person, things, v));
            }
            return least;
        }

        private int withFacing(State state, int person, int things, int v) {
            int then = things | seen[person * WAYS + v];
            return (v == state.facing[person] ? 0 : 1) + need[(person + 1) * SETS + then];
        }

        void tellLeast(State state, Numbers row) {
            int things = 0;
            for (int i = 0; i < state.persons && i < MOST_PEOPLE; i++) {
                int v = 0;
                while (v < WAYS - 1 && withFacing(state, i, things, v) != need[i * SETS + things]) {
                    v++;
                }
                row.add(v);
                things |= seen[i * WAYS + v];
            }
        }
    }

    /** Storms, the weathercock, gifts and draws. */
    private static final class Games {
        private static final int TENTHS = 10;
        private static final int MOST_OFF = 60;
        private static final int LEAST_TURNS = 2;
        private static final int MOST_TURNS = 9;
        private static final int MOST_WORTH = 20;
        private static final int MOST_ELLS = 9;
        /** Far more than two numbers up to 10 to the 8th need. */
        private static final int MOST_DIVISIONS = 1000;

        private final long[] chance;
        private long parts;
        private final int[] wins;
        private int drawn;

        Games() {
            chance = new long[MOST_PEOPLE + 1];
            wins = new int[MOST_OFF + 1];
            parts = 1;
            drawn = 0;
        }

        void startStorm() {
            Arrays.fill(chance, 0L);
            chance[0] = 1;
            parts = 1;
        }

        /** One more, who SEES by so many tenths. */
        void addLooker(int tenths) {
            for (int k = MOST_PEOPLE; k > 0; k--) {
                chance[k] = chance[k] * (TENTHS - tenths) + chance[k - 1] * tenths;
            }
            chance[0] *= TENTHS - tenths;
            parts *= TENTHS;
        }

        void tellChance(int atLeast, Numbers row) {
            long sum = 0;
            for (int k = Math.max(0, atLeast); k <= MOST_PEOPLE; k++) {
                sum += chance[k];
            }
            long common = commonDivisor(parts, sum);
            if (common > 0) {
                row.add(sum / common).add(parts / common);
            }
        }

        private static long commonDivisor(long a, long b) {
            long greater = a;
            long lesser = b;
            for (int i = 0; i < MOST_DIVISIONS && lesser > 0; i++) {
                long rest = greater % lesser;
                greater = lesser;
                lesser = rest;
            }
            return greater;
        }

        /** wins has, by how far it is off, the turns that win (bits), had none just been. */
        int winningTurn(int off, int most) {
            wins[0] = 0;
            for (int n = 1; n <= off && n <= MOST_OFF; n++) {
                wins[n] = 0;
                for (int turn = 1; turn <= most && turn <= n; turn++) {
                    if ((wins[n - turn] & ~(1 << turn)) == 0) {
                        wins[n] |= 1 << turn;
                    }
                }
            }
            for (int turn = 1; turn <= most && off >= 0 && off <= MOST_OFF; turn++) {
                if ((wins[off] >> turn & 1) == 1) {
                    return turn;
                }
            }
            return 0;
        }

        int restingPairs(int v, Numbers row) {
            int found = 0;
            for (int x = 0; x <= MOST_ELLS; x++) {
                for (int y = 0; y <= MOST_ELLS; y++) {
                    if (!isBest(v, x, y) || !isBest(v, y, x)) {
                        continue;
                    }
                    if (found == 0) {
                        row.add(x).add(y);
                    }
                    found++;
                }
            }
            return found;
        }

        private static boolean isBest(int v, int own, int others) {
            for (int ells = 0; ells <= MOST_ELLS; ells++) {
                if (gain(v, ells, others) > gain(v, own, others)) {
                    return false;
                }
            }
            return true;
        }

        private static int gain(int v, int own, int others) {
            return v * Math.min(own, others) / 4 - own - Math.max(0, own - 4);
        }

        void startDraws(int seed) {
            drawn = seed;
        }

        int draw(int n) {
            drawn = drawn * 1103515245 + 12345;
            return n > 0 ? (drawn >>> 16) % n : 0;
        }
    }
}
