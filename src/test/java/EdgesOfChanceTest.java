/** Promises 40 to 44: each sentence that names a boundary, with a test of its own. */
public final class EdgesOfChanceTest {
    private static final int LEAST = Integer.MIN_VALUE;
    private static final int MOST = Integer.MAX_VALUE;
    private static final String SMALL = "33.........";
    private static final String EIGHT = "0004;0004;0004;0004;0004;0004;0004;0004";

    public static void main(String[] args) {
        storm();
        stormRefused();
        cock();
        cockRefused();
        law();
        rests();
        years();
        yearsDraws();
        Check.close("EdgesOfChanceTest");
    }

    private static void chance(Check c, int field, int k, int p, long upper, long lower) {
        String what = "storm(" + field + ", " + k + ", " + p + ")";
        Check.due(what, c.v.storm(field, k, p), 0);
        c.row(what, upper, lower);
    }

    private static void storm() {
        Check.sentence(40, "A storm takes each bonnet by p tenths (0 .. 10), each by itself", () -> {
            Check c = Check.made(SMALL, EIGHT, "");
            chance(c, 8, 1, 0, 0, 1);
            chance(c, 8, 8, 10, 1, 1);
            chance(c, 8, 8, 1, 1, 100000000);
            chance(c, 8, 1, 9, 99999999, 100000000);
            chance(c, 8, 8, 5, 1, 256);
            // 8 times 9 to the 7th, and 9 to the 8th: 7 or more
            chance(c, 8, 7, 9, 81310473, 100000000);
        });
        Check.sentence(40, "(BRIM 0 then)", () -> {
            // by LIGHT 4 and BRIM 4 one SEES its own FIELD alone, by BRIM 0 as far as 4
            Check c = Check.made("35" + ".".repeat(15), "0024;0024", "");
            c.light("4", 1);
            chance(c, 4, 1, 3, 51, 100);
            chance(c, 4, 2, 3, 9, 100);
            // by a rule that wants a BRIM the storm takes the sight
            c.rule("b", 0);
            chance(c, 4, 2, 3, 49, 100);
            chance(c, 4, 1, 10, 0, 1);
            chance(c, 0, 2, 10, 1, 1);
            c.people(2, 4, 4);
            // by LIGHT 3 and BRIM 0 one SEES as far as 3 and no farther, and what is behind, too
            Check ahead = Check.made("35" + ".".repeat(15), "0022", "");
            ahead.light("3", 1);
            chance(ahead, 1, 1, 0, 1, 1);
            chance(ahead, 3, 1, 0, 0, 1);
            chance(ahead, 3, 1, 7, 7, 10);
            chance(ahead, 4, 1, 10, 0, 1);
            Check behind = Check.made("35" + ".".repeat(15), "1424", "");
            behind.light("3", 1);
            chance(behind, 6, 1, 4, 2, 5);
            chance(behind, 5, 1, 10, 0, 1);
        });
        Check.sentence(40, "how likely k (0 .. 8) PEOPLE or more SEE a FIELD then: 0; the ROW: the fraction", () -> {
            Check c = Check.made(SMALL, EIGHT, "");
            // 1, 8, 28, 56, 70, 56, 28, 8, 1 of 256
            int[] atLeast = {256, 255, 247, 219, 163, 93, 37, 9, 1};
            for (int k = 0; k <= 8; k++) {
                int by = k == 0 ? 256 : 1;
                chance(c, 8, k, 5, atLeast[k] / by, 256 / by);
            }
            Check three = Check.made(SMALL, "0000;0000;0000", "");
            for (int k = 0; k <= 8; k++) {
                chance(three, 8, k, 7, k <= 3 ? 1 : 0, 1);
            }
            Check nobody = new Check();
            chance(nobody, 0, 0, 10, 1, 1);
            chance(nobody, 0, 1, 10, 0, 1);
            chance(nobody, 8, 8, 0, 0, 1);
        });
    }

    private static void stormRefused() {
        Check.sentence(40, "NONE: others", () -> {
            Check c = Check.made(SMALL, EIGHT, "");
            Check.each("field", f -> c.v.storm(f, 0, 0), -1, 9, 48, 64, -1, LEAST, MOST);
            Check.each("k", k -> c.v.storm(0, k, 0), -1, 9, -1, LEAST, MOST);
            Check.each("p", p -> c.v.storm(0, 0, p), -1, 11, -1, LEAST, MOST);
            Check.due("no ROW", c.v.count(11), 0);
        });
    }

    private static void cock() {
        Check.sentence(41, "each 1 .. k (2 .. 9) eighths, but not as many as just were", () -> {
            Check c = new Check();
            // of 3 the other one turns 2 behind 1, 1 behind 2
            Check.due("cock(3, 2)", c.v.cock(3, 2), 0);
            // of 4 one turns 1: the other one may turn 2 alone, and the last is turned by 1
            Check.due("cock(4, 2)", c.v.cock(4, 2), 1);
            for (int k = 2; k <= 9; k++) {
                for (int n = 0; n <= 16; n++) {
                    Check.due("cock(" + n + ", " + k + ")", c.v.cock(n, k), slow(n, k));
                }
            }
        });
        Check.sentence(41, "who brings it to 0 has won, who can't turn it has lost", () -> {
            Check c = new Check();
            for (int k = 2; k <= 9; k++) {
                // of 2 one turns 1: the other one may not turn 1 and can't turn 2
                Check.due("cock(1, " + k + ")", c.v.cock(1, k), 1);
                Check.due("cock(2, " + k + ")", c.v.cock(2, k), 1);
            }
            Check.due("cock(3, 3)", c.v.cock(3, 3), 3);
        });
        Check.sentence(41, "the least number by which the first one wins, nothing having been turned yet; 0: by none", () -> {
            Check c = new Check();
            for (int k = 2; k <= 9; k++) {
                Check.due("cock(0, " + k + ")", c.v.cock(0, k), 0);
                for (int n = 0; n <= 60; n++) {
                    Check.due("cock(" + n + ", " + k + ")", c.v.cock(n, k), byTable(n, k));
                }
            }
        });
    }

    private static long slow(int n, int k) {
        for (int t = 1; t <= k && t <= n; t++) {
            if (!canWin(n - t, k, t)) {
                return t;
            }
        }
        return 0;
    }

    private static boolean canWin(int n, int k, int just) {
        for (int t = 1; t <= k && t <= n; t++) {
            if (t != just && !canWin(n - t, k, t)) {
                return true;
            }
        }
        return false;
    }

    /** Who wins by how far it is off and how many just were turned, from 0 on. */
    private static long byTable(int off, int k) {
        boolean[][] wins = new boolean[off + 1][k + 1];
        for (int n = 1; n <= off; n++) {
            for (int just = 0; just <= k; just++) {
                for (int t = 1; t <= Math.min(k, n); t++) {
                    wins[n][just] |= t != just && !wins[n - t][t];
                }
            }
        }
        for (int t = 1; t <= Math.min(k, off); t++) {
            if (!wins[off - t][t]) {
                return t;
            }
        }
        return 0;
    }

    private static void cockRefused() {
        Check.sentence(41, "stands n eighths (0 .. 60) off", () -> {
            Check c = new Check();
            Check.due("at 0 there is nothing to turn", c.v.cock(0, 9), 0);
            Check.due("cock(60, 9)", c.v.cock(60, 9), byTable(60, 9));
            Check.due("cock(60, 2)", c.v.cock(60, 2), byTable(60, 2));
        });
        Check.sentence(41, "NONE: others", () -> {
            Check c = new Check();
            Check.each("n", n -> c.v.cock(n, 2), -1, 61, -1, LEAST, MOST);
            Check.each("k", k -> c.v.cock(1, k), -1, 1, 0, 10, -1, LEAST, MOST);
            Check.each("n and k", k -> c.v.cock(61, k), -1, 1, 10);
        });
    }

    private static void law() {
        Check.sentence(42, "THE TEXT is another RULE (an empty one: none)", () -> {
            Check c = Check.made(SMALL, "0000", "");
            c.rule("0", 0);
            c.law("", 8);
            c.row("none: l-b", 9, 1);
            c.light("1", 1);
            c.law("", 3);
            c.row("none: l-b", 4, 1);
            c.people(4, 0);
        });
        Check.sentence(42, "less by THE RULE: how many (below 0, too); the ROW: both", () -> {
            Check c = Check.made(SMALL, "0000", "");
            c.law("0", -8);
            c.row("fewer", 1, 9);
            c.law("1", -5);
            c.row("fewer", 4, 9);
            c.law("l", 0);
            c.row("as many", 9, 9);
            c.rule("0", 0);
            c.law("1", 3);
            c.row("more", 4, 1);
            c.people(4, 0);
            Check wide = Check.made("77" + ".".repeat(49), "3300", "");
            wide.law("0", -48);
            wide.row("the most", 1, 49);
            wide.rule("0", 0);
            wide.law("3", 48);
            wide.row("the most", 49, 1);
            Check nobody = new Check();
            nobody.law("9", 0);
            nobody.row("nobody", 0, 0);
        });
        Check.sentence(42, "-10000 - p: the sign at p can't stand there (as rule())", () -> {
            Check c = Check.made(SMALL, "0000", "");
            c.v.hidden();
            c.law("x", -10000);
            c.law("-", -10001);
            c.law("1+", -10002);
            c.law("1<2<3", -10003);
            c.law("1234", -10003);
            c.law("(((((1)))))", -10004);
            c.law("1+".repeat(19) + "1x", -10039);
            c.law("1+".repeat(20), -10040);
            c.law("1+".repeat(20) + "1", -10040);
            c.law("1+".repeat(40), -10040);
            c.law("1+".repeat(19) + "22x", -10040);
            c.row("hidden", 0, 0);
            c.people(4, 9);
            c.law("1+".repeat(19) + "22", 0);
        });
    }

    private static void rests() {
        Check.sentence(43, "Two give ribbon, x and y (0 .. 9) ells; each has v (0 .. 20) times the lesser of both, by 4 (cut)", () -> {
            Check c = new Check();
            // 3: the ells bring 0, 1, 2, 3, .. together and cost 1, 2, 3, 4, ..
            for (int v = 0; v <= 3; v++) {
                Check.due("rests(" + v + ")", c.v.rests(v), 1);
                c.row("rests(" + v + ")", 0, 0);
            }
            // 20: an ell more brings five, up to the ninth
            Check.due("rests(20)", c.v.rests(20), 10);
            c.row("rests(20)", 0, 0);
            // 5: they bring 1, 2, 3, 5, 6, 7, 8, 10, .. and cost 1, 2, 3, 4, 6, 8, 10, 12, ..: up to 4
            Check.due("rests(5)", c.v.rests(5), 5);
            for (int v = 0; v <= 20; v++) {
                Check.due("rests(" + v + ")", c.v.rests(v), byTrying(v));
                c.row("rests(" + v + ")", 0, 0);
            }
        });
        Check.sentence(43, "and pays its own, twice for each above 4", () -> {
            Check c = new Check();
            // 4: each ell of both brings one: 0 .. 4 rest, 5 costs two more than 4
            Check.due("rests(4)", c.v.rests(4), 5);
            // 8: each brings two: 5 .. 9 rest, too
            Check.due("rests(8)", c.v.rests(8), 10);
            // 7: they bring 1, 3, 5, 7, 8, 10, .. and cost 1, 2, 3, 4, 6, 8, ..: who gives 5 would give 4 rather
            Check.due("rests(7)", c.v.rests(7), 5);
        });
        Check.sentence(43, "the ROW: the least (nothing without)", () -> {
            // there is always one: who gives alone has nothing of it
            Check c = new Check();
            for (int v = 0; v <= 20; v++) {
                Check.due("rests(" + v + ")", c.v.rests(v) > 0, true);
                c.row("rests(" + v + ")", 0, 0);
            }
        });
        Check.sentence(43, "NONE: another v", () -> {
            Check c = new Check();
            Check.each("rests", c.v::rests, -1, 21, -1, LEAST, MOST);
            Check.due("no ROW", c.v.count(11), 0);
        });
    }

    private static long byTrying(int v) {
        int[] cost = {0, 1, 2, 3, 4, 6, 8, 10, 12, 14};
        long rests = 0;
        for (int x = 0; x < 10; x++) {
            for (int y = 0; y < 10; y++) {
                boolean better = false;
                for (int z = 0; z < 10; z++) {
                    better |= v * Math.min(z, y) / 4 - cost[z] > v * Math.min(x, y) / 4 - cost[x];
                    better |= v * Math.min(x, z) / 4 - cost[z] > v * Math.min(x, y) / 4 - cost[y];
                }
                rests += better ? 0 : 1;
            }
        }
        return rests;
    }

    /** The draws from seed 1 on are well known: 16838, 5758, 10113, 17515, 31051, 5627, 23010, 7419, 16212, .. */
    private static void years() {
        Check.sentence(44, "n times (1 .. 60)", () -> {
            Check c = Check.made(SMALL, "0002", "00");
            Check.due("years(0, 1): an HOUR", c.v.years(0, 1), 1);
            Check.due("years(1, 60)", c.v.years(1, 60), 1);
            Check.due("BRIMS", c.v.row(1), 2);
        });
        Check.sentence(44, "NONE: another n", () -> {
            Check c = Check.made(SMALL, "0002", "00");
            Check.each("years", n -> c.v.years(1, n), -1, 0, -1, 61, LEAST, MOST);
            Check.due("no ROW", c.v.count(11), 0);
        });
        Check.sentence(44, "2: a DRAW of PEOPLE, a DRAW of 8 tell a FACING", () -> {
            // 16838: 2; 5758: the first of two; 10113: FACING 1, by which it SEES nothing from the top
            Check c = Check.made(SMALL, "0044;2204", "");
            Check.due("years(1, 1)", c.v.years(1, 1), 0);
            c.row("its own FIELD, and a COLUMN", 4, 8);
            Check.due("ahead", c.v.count(8), 6);
        });
        Check.sentence(44, "3: a DRAW of PEOPLE, a DRAW of 8 tell a step, if it can be", () -> {
            // then 17515: 3; 31051: the second of two; 5627: a step down and right
            Check c = Check.made(SMALL, "0044;1104", "");
            Check.due("years(1, 2)", c.v.years(1, 2), 0);
            c.row("from 2 2 it SEES a COLUMN of three", 4, 8);
            Check rock = Check.made("33........#", "0044;1104", "");
            rock.v.years(1, 2);
            rock.row("a rock: it stays", 3, 8);
            Check rim = Check.made(SMALL, "0044;2104", "");
            rim.v.years(1, 2);
            rim.row("no FIELD: it stays", 4, 8);
        });
        Check.sentence(44, "(2, 3: no DRAWS without PEOPLE)", () -> {
            Check c = Check.made(SMALL, "", "00");
            for (int seed : new int[] {0, 1, -1, LEAST, MOST}) {
                Check.due("years(" + seed + ", 60)", c.v.years(seed, 60), 0);
                c.row("nobody", 0, 0);
            }
        });
    }

    private static void yearsDraws() {
        Check.sentence(44, "R = R times 1103515245 + 12345 (as ints; R is seed at first), (R without sign, by 65536) % n", () -> {
            int[] seeds = {0, 1, 2, 3, -1, -2, 65536, 12345, LEAST, MOST, LEAST + 1, 987654321};
            for (int seed : seeds) {
                for (int people = 1; people <= 8; people++) {
                    String who = "0002;3343;1161;0133;2204;3100;0371;2001".substring(0, 5 * people - 1);
                    Check c = Check.made("44" + "....#.......#...", who, "00;11;30;10");
                    long[] r = {seed & 0xffffffffL};
                    for (int i = 0; i < 25; i++) {
                        live(c, r, people);
                    }
                    Check d = Check.made("44" + "....#.......#...", who, "00;11;30;10");
                    String what = "years(" + seed + ", 25) of " + people;
                    Check.due(what, d.v.years(seed, 25), c.v.count(6));
                    Check.due(what + ": FIELDS", d.v.row(0), c.v.count(8));
                }
            }
        });
    }

    private static void live(Check c, long[] r, int people) {
        int lot = draw(r, 4);
        if (lot < 2) {
            c.v.hours(1);
            return;
        }
        int who = draw(r, people);
        int way = draw(r, 8);
        if (lot == 2) {
            c.v.faces(who, way);
        } else {
            c.v.steps(who, way);
        }
    }

    private static int draw(long[] r, int n) {
        r[0] = (r[0] * 1103515245L + 12345) % 4294967296L;
        return (int) (r[0] / 65536 % n);
    }
}
