/** Promises 40, 41, 43 and 44: storms, the weathercock, gifts at rest, years. */
public final class ChanceTest {
    public static void main(String[] args) {
        storm();
        stormRule();
        stormOfEight();
        cock();
        rests();
        years();
        yearsDraws();
        Check.close("ChanceTest");
    }

    private static void storm() {
        Check c = Check.made("33.........", "0024;2264;1100", "");
        // FIELD 3: 0 and 1 SEE it without a bonnet alone, 2 in any case
        chance(c, 3, 0, 3, 1, 1);
        chance(c, 3, 1, 3, 1, 1);
        chance(c, 3, 2, 3, 51, 100);
        chance(c, 3, 3, 3, 9, 100);
        chance(c, 3, 4, 3, 0, 1);
        chance(c, 3, 8, 3, 0, 1);
        chance(c, 3, 2, 0, 0, 1);
        chance(c, 3, 3, 10, 1, 1);
        chance(c, 3, 3, 5, 1, 4);
        Check.due("no such FIELD", c.v.storm(9, 0, 0), -1);
        Check.due("no such FIELD", c.v.storm(-1, 0, 0), -1);
        Check.due("k 9", c.v.storm(0, 9, 0), -1);
        Check.due("k -1", c.v.storm(0, -1, 0), -1);
        Check.due("p 11", c.v.storm(0, 0, 11), -1);
        Check.due("p -1", c.v.storm(0, 0, -1), -1);
        c.row("stays", 1, 4);
        Check.due("nothing changes", c.v.person(0, 2), 4);
    }

    private static void chance(Check c, int field, int k, int p, long upper, long lower) {
        String what = "storm(" + field + ", " + k + ", " + p + ")";
        Check.due(what, c.v.storm(field, k, p), 0);
        c.row(what, upper, lower);
    }

    private static void stormRule() {
        // a rule by which one sees farther under a brim: the storm takes the sight
        Check c = Check.made("33.........", "0024", "");
        c.rule("b", 0);
        chance(c, 2, 1, 3, 7, 10);
        chance(c, 0, 1, 3, 1, 1);
        chance(c, 8, 1, 3, 0, 1);
    }

    private static void stormOfEight() {
        Check c = Check.made("33.........", "0004;0004;0004;0004;0004;0004;0004;0004", "");
        chance(c, 8, 8, 1, 1, 100000000);
        chance(c, 8, 8, 9, 43046721, 100000000);
        // 1 less 0.9 to the 8th
        chance(c, 8, 1, 1, 56953279, 100000000);
        // 1, 8, 28, 56, 70, .. of 256: 163 have 4 or more
        chance(c, 8, 4, 5, 163, 256);
    }

    private static void cock() {
        Check c = new Check();
        // by 2: 0 lost; 1: 1; 2: 1 (then 1 is left and can't be turned by 1); 3: lost; ..
        long[] two = {0, 1, 1, 0, 1, 2, 0, 1, 2, 0};
        for (int n = 0; n < two.length; n++) {
            long want = slow(n, 2);
            Check.due("cock(" + n + ", 2)", c.v.cock(n, 2), want);
            if (n < 4) {
                Check.due("by hand", want, two[n]);
            }
        }
        for (int k = 2; k <= 9; k++) {
            for (int n = 0; n <= 14; n++) {
                Check.due("cock(" + n + ", " + k + ")", c.v.cock(n, k), slow(n, k));
            }
        }
        int[][] bad = {{-1, 2}, {61, 2}, {5, 1}, {5, 10}, {0, -1}, {60, 0}};
        for (int[] b : bad) {
            Check.due("cock(" + b[0] + ", " + b[1] + ")", c.v.cock(b[0], b[1]), -1);
        }
        Check.due("60 is let", c.v.cock(60, 9) >= 0, true);
        Check.due("no ROW", c.v.count(11), 0);
    }

    private static long slow(int n, int k) {
        for (int t = 1; t <= k && t <= n; t++) {
            if (!canWin(n - t, k, t)) {
                return t;
            }
        }
        return 0;
    }

    private static boolean canWin(int n, int k, int just) {
        for (int t = 1; t <= k && t <= n; t++) {
            if (t != just && !canWin(n - t, k, t)) {
                return true;
            }
        }
        return false;
    }

    private static void rests() {
        Check c = new Check();
        // v 4: an ell of both brings one and costs one, up to 4 of them; above, less than it costs
        Check.due("rests(4)", c.v.rests(4), 5);
        c.row("rests(4)", 0, 0);
        // v 8: each brings two and costs two at most: all ten
        Check.due("rests(8)", c.v.rests(8), 10);
        c.row("rests(8)", 0, 0);
        Check.due("rests(0)", c.v.rests(0), 1);
        Check.due("rests(3)", c.v.rests(3), 1);
        Check.due("rests(20)", c.v.rests(20), 10);
        Check.due("rests(21)", c.v.rests(21), -1);
        Check.due("rests(-1)", c.v.rests(-1), -1);
        c.row("stays", 0, 0);
    }

    private static void years() {
        Check c = Check.made("34............", "0002;2344", "00;11");
        Check.due("years(1, 0)", c.v.years(1, 0), -1);
        Check.due("years(1, 61)", c.v.years(1, 61), -1);
        Check.due("years(1, -1)", c.v.years(1, -1), -1);
        Check.due("the ROW stays", c.v.count(11), 0);
        c.v.years(7, 60);
        Check.due("numbers", c.v.count(11), 2);
        Check.due("BRIMS", c.v.row(1), 6);
        Check.due("nothing changes: HOUR", c.v.count(4), 0);
        Check.due("nothing changes: KNOWN", c.v.count(6), 0);
        Check.due("nothing to undo", c.v.undo(), -1);
        Check d = new Check();
        Check.due("nobody", d.v.years(-5, 60), 0);
        d.row("nobody", 0, 0);
    }

    /** The same by hours(), faces() and steps(), as the draws tell them. */
    private static void yearsDraws() {
        int[] seeds = {0, 1, -1, 12345, Integer.MIN_VALUE, Integer.MAX_VALUE, 987654321};
        for (int seed : seeds) {
            Check c = Check.made("44" + "....#.......#...", "0002;3343;1161", "00;11;30;10");
            int[] r = {seed};
            for (int i = 0; i < 40; i++) {
                int lot = draw(r, 4);
                if (lot < 2) {
                    c.v.hours(1);
                } else {
                    int who = draw(r, 3);
                    int way = draw(r, 8);
                    int x = lot == 2 ? c.v.faces(who, way) : c.v.steps(who, way);
                }
            }
            Check d = Check.made("44" + "....#.......#...", "0002;3343;1161", "00;11;30;10");
            Check.due("years(" + seed + ", 40)", d.v.years(seed, 40), c.v.count(6));
            d.row("years(" + seed + ", 40)", c.v.count(8), 6);
        }
    }

    private static int draw(int[] r, int n) {
        r[0] = r[0] * 1103515245 + 12345;
        return (int) ((r[0] & 0xffffffffL) / 65536 % n);
    }
}
