import java.util.ArrayList;
import java.util.List;

/** Two objects that were made alike, one of which has a call more: what that call changes is seen by comparing. */
final class Twin {
    interface Call {
        long of(BonnetValley v);
    }

    private static final int PARTS = 3;

    private Twin() {
    }

    /** A valley with something of all that a call could change: PEOPLE who KNOW, acts, kept ones, heard ones, a ROW. */
    static BonnetValley busy() {
        BonnetValley v = new BonnetValley();
        read(v, "34.....#......", BonnetValley::valley);
        read(v, "0021;1003;2342", BonnetValley::people);
        read(v, "02;20", BonnetValley::things);
        read(v, "4719", BonnetValley::light);
        read(v, "l-b+k*2-n", BonnetValley::rule);
        v.hours(2);
        v.keep(0);
        v.faces(1, 3);
        v.steps(2, 6);
        v.trims(0, 2);
        v.keep(2);
        v.puts(1, 11);
        read(v, "n1f17", BonnetValley::day);
        v.heard(0, 1);
        v.heard(1, 0);
        v.widest();
        return v;
    }

    static long read(BonnetValley v, String s, Call call) {
        v.end(0);
        Check.put(v, s);
        return call.of(v);
    }

    /** The call answers so and changes nothing, the ROW neither. */
    static void changesNothing(String name, Call call, long want) {
        for (int part = 0; part < PARTS; part++) {
            BonnetValley one = busy();
            BonnetValley other = busy();
            Check.due(name, call.of(other), want);
            compare(name, all(one, part, true), all(other, part, true));
        }
    }

    /** Likewise, and it throws. */
    static void throwsAndChangesNothing(String name, Call call) {
        for (int part = 0; part < PARTS; part++) {
            BonnetValley one = busy();
            BonnetValley other = busy();
            Check.throwsNoSuch(name, () -> call.of(other));
            compare(name, all(one, part, true), all(other, part, true));
        }
    }

    /** The call changes nothing but the ROW. */
    static void asksOnly(String name, Call call) {
        for (int part = 0; part < PARTS; part++) {
            BonnetValley one = busy();
            BonnetValley other = busy();
            Check.due(name + " has an answer", call.of(other) >= 0, true);
            compare(name, all(one, part, false), all(other, part, false));
        }
    }

    private static void compare(String name, List<Long> one, List<Long> other) {
        Check.due(name + " changes something: " + one + " to " + other, one.equals(other), true);
    }

    /**
     * All that can be seen of an object from outside. It is used up by that, and what it answers after 512 calls is
     * free: so it is seen in parts, each of an object of its own.
     */
    private static List<Long> all(BonnetValley v, int part, boolean withRow) {
        List<Long> seen = new ArrayList<>();
        if (part == 0) {
            addNow(v, seen, withRow);
        } else if (part == 1) {
            for (int i = 0; i < 16; i++) {
                seen.add((long) v.undo());
                addState(v, seen);
            }
        } else {
            for (int i = 0; i < 3; i++) {
                seen.add(v.again(i) ? 1L : 0L);
                addState(v, seen);
            }
            addHours(v, seen);
        }
        return seen;
    }

    private static void addNow(BonnetValley v, List<Long> seen, boolean withRow) {
        int numbers = v.count(11);
        for (int i = 0; withRow && i < numbers; i++) {
            seen.add(v.row(i));
        }
        for (int what = 0; what <= 12; what++) {
            seen.add(what == 11 && !withRow ? 0L : v.count(what));
        }
        seen.add(v.lost());
        addState(v, seen);
        addHours(v, seen);
    }

    /** LIGHT has 20 signs at most: in so many HOURS all of it is seen, and by it THE RULE. */
    private static void addHours(BonnetValley v, List<Long> seen) {
        int people = v.count(2);
        for (int hour = 0; hour < 20; hour++) {
            v.hours(1);
            seen.add((long) v.count(5));
            for (int i = 0; i < people; i++) {
                seen.add((long) v.person(i, 4));
            }
        }
    }

    private static void addState(BonnetValley v, List<Long> seen) {
        int people = v.count(2);
        int things = v.count(3);
        seen.add((long) v.count(4));
        for (int i = 0; i < people; i++) {
            for (int what = 0; what <= 4; what++) {
                seen.add((long) v.person(i, what));
            }
        }
        for (int i = 0; i < things; i++) {
            seen.add((long) v.thing(i, 0));
        }
    }
}
