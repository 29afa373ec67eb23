import java.util.NoSuchElementException;

/**
 * THE TEXT is THE VALLEY anew (promise 4): an object that has lived through other valleys answers every call as
 * a new one does. What it holds in rows that are used again may not shine through.
 */
public final class WornTest {
    /** Each of these is led into by all the others: greater and smaller, with rocks at other places, fuller and emptier. */
    private static final String[][] LANDS = {
        {"33.........", "0021;1140;2213", "00;22;12", "9", ""},
        {"33#.#...#.#", "0100;1124", "11", "3", "l-b"},
        {"77" + ".".repeat(49), "0030;3301;6672;0644;6000;1111;5555;3340", "00;66;06;60;33;12;34;56", "97531", "l-b+k-n"},
        {"77" + "....#..".repeat(7), "0030;6671", "06;60;33", "5", "p*3+r-c"},
        {"37.......######........", "0020;2060", "06;20;10", "8", "9-(b>1)*4"},
        {"73" + ".#.".repeat(7), "0040;6200", "02", "0123456789", "n+f"},
        {"44################", "", "00;33", "1", "3"},
        {"55" + ".".repeat(25), "", "", "9", ""},
        {"55" + ".".repeat(12) + "#" + ".".repeat(12), "0033;4471;2103", "", "6", "9"},
    };

    public static void main(String[] args) {
        String words = "THE TEXT is THE VALLEY anew: how many FIELDS; there are no PEOPLE, no THINGS";
        for (String[] ahead : LANDS) {
            for (String[] land : LANDS) {
                Check.sentence(4, words, () -> compare(ahead, land));
            }
        }
        Check.sentence(4, words, WornTest::throughAll);
        Check.close("WornTest");
    }

    private static void compare(String[] ahead, String[] land) {
        for (int part = 0; part < 3; part++) {
            BonnetValley worn = new BonnetValley();
            lead(worn, ahead);
            wear(worn, part);
            lead(worn, land);
            BonnetValley fresh = new BonnetValley();
            lead(fresh, land);
            String[] got = asked(worn, part).split(" ");
            String[] want = asked(fresh, part).split(" ");
            Check.due("numbers told", got.length, want.length);
            for (int i = 0; i < got.length && i < want.length; i++) {
                String where = land[0] + " behind " + ahead[0] + ", part " + part + ", number " + i;
                Check.due(where + ": " + got[i] + ", due is " + want[i] + ":", got[i].equals(want[i]), true);
            }
        }
    }

    /** One object leads through all of them, so far as 512 calls go. */
    private static void throughAll() {
        BonnetValley worn = new BonnetValley();
        for (String[] land : LANDS) {
            lead(worn, land);
            BonnetValley fresh = new BonnetValley();
            lead(fresh, land);
            for (int i = 0; i < fresh.count(2); i++) {
                Check.due("sees(" + i + ") of " + land[0], worn.sees(i), fresh.sees(i));
            }
            Check.due("turned() of " + land[0], worn.turned(), fresh.turned());
            Check.due("hidden() of " + land[0], worn.hidden(), fresh.hidden());
            Check.due("asks() of " + land[0], worn.asks(), fresh.asks());
        }
    }

    private static void lead(BonnetValley v, String[] land) {
        Twin.read(v, land[0], BonnetValley::valley);
        Twin.read(v, land[1], BonnetValley::people);
        Twin.read(v, land[2], BonnetValley::things);
        Twin.read(v, land[3], BonnetValley::light);
        Twin.read(v, land[4], BonnetValley::rule);
    }

    private static void wear(BonnetValley v, int part) {
        asked(v, part);
        Twin.read(v, "f01g01b02p011n1", BonnetValley::day);
        v.keep(0);
        v.heard(0, 1);
        Twin.read(v, "-((", BonnetValley::law);
        Twin.read(v, "p0", BonnetValley::day);
        Twin.read(v, "000", BonnetValley::things);
    }

    interface Call {
        long answer();
    }

    /** What one answers, with its ROW; too much for one object, so that it comes in three parts. */
    private static String asked(BonnetValley v, int part) {
        StringBuilder s = new StringBuilder();
        if (part == 0) {
            looks(v, s);
        } else if (part == 1) {
            searches(v, s);
        } else {
            tell(s, v, v::turned);
            tell(s, v, () -> v.years(7, 60));
            for (int k = 0; k < 4; k++) {
                int least = k;
                tell(s, v, () -> v.storm(1, least, 3));
                tell(s, v, () -> v.cock(57 - 19 * least, 9 - least));
                tell(s, v, () -> v.rests(20 - 5 * least));
            }
            tell(s, v, () -> v.hours(1));
            tell(s, v, () -> v.hours(9));
            tell(s, v, v::undo);
            tell(s, v, () -> v.count(4));
            tell(s, v, v::all);
        }
        return s.toString();
    }

    private static void looks(BonnetValley v, StringBuilder s) {
        for (int i = 0; i < 3; i++) {
            int who = i;
            tell(s, v, () -> v.sees(who));
            tell(s, v, () -> v.behind(who));
            tell(s, v, () -> v.gossip(who));
            tell(s, v, () -> v.learns(who, 0));
            tell(s, v, () -> v.seers(who));
        }
        tell(s, v, v::hidden);
        tell(s, v, v::pairs);
        tell(s, v, v::widest);
        tell(s, v, v::watch);
        tell(s, v, () -> v.ahead(20));
        tell(s, v, () -> v.count(7));
        tell(s, v, () -> v.count(8));
    }

    private static void searches(BonnetValley v, StringBuilder s) {
        for (int i = 0; i < 3; i++) {
            int who = i;
            tell(s, v, () -> v.eighths(who, 4 * who));
            tell(s, v, () -> v.best(who));
            tell(s, v, () -> v.bears(who, 8 - who));
        }
        tell(s, v, () -> v.back(0, 8));
        tell(s, v, () -> v.open(8, 0));
        tell(s, v, () -> v.open(1, 7));
        tell(s, v, v::turned);
        tell(s, v, v::asks);
        tell(s, v, () -> v.heard(1, 0));
        tell(s, v, v::lost);
        tell(s, v, v::asks);
        tell(s, v, v::all);
    }

    private static void tell(StringBuilder s, BonnetValley v, Call call) {
        long answer;
        try {
            answer = call.answer();
        } catch (NoSuchElementException e) {
            s.append("thrown ");
            return;
        }
        s.append(answer).append(' ');
        // without an answer the ROW is an older one
        for (int i = 0; answer >= 0 && i < v.count(11); i++) {
            s.append(v.row(i)).append(',');
        }
        s.append(' ');
    }
}
