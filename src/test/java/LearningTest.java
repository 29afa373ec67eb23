/** Promises 26 to 29: when one learns of a thing, when all do, how gossip goes. */
public final class LearningTest {
    /** Two by two with a rock between, looking all round, who SEE as far as one FIELD. */
    private static Check apart() {
        Check c = Check.made("35" + "..#.." + "#####" + "#####", "0000;0100;0300;0400", "00");
        c.rule("1", 0);
        return c;
    }

    public static void main(String[] args) {
        learns();
        learnsLate();
        all();
        ahead();
        gossip();
        Check.close("LearningTest");
    }

    /** Four in a row, each beside the next, looking all round, who SEE as far as one FIELD. */
    private static Check line() {
        Check c = Check.made("35" + "....." + "#####" + "#####", "0000;0100;0200;0300", "00;00");
        c.rule("1", 0);
        return c;
    }

    private static void learns() {
        Check c = line();
        // 0 and 1 SEE the THING in the first HOUR, 2 hears in the second, 3 in the third
        int[] hours = {1, 1, 2, 3};
        int[] knowers = {2, 2, 3, 4};
        for (int i = 0; i < 4; i++) {
            Check.due("learns(" + i + ", 0)", c.v.learns(i, 0), hours[i]);
            c.row("learns(" + i + ", 0)", knowers[i]);
        }
        Check.due("nothing changes", c.v.count(4), 0);
        c.v.hours(2);
        Check.due("it does", c.v.learns(2, 1), 0);
        c.row("it does", 3);
        Check d = apart();
        Check.due("in none of these", d.v.learns(2, 0), -2);
        Check.due("no such person", d.v.learns(4, 0), -1);
        Check.due("no such person", d.v.learns(-1, 0), -1);
        Check.due("no such thing", d.v.learns(0, 1), -1);
        Check.due("no such thing", d.v.learns(0, -1), -1);
        Check.due("the ROW stays", d.v.count(11), 0);
    }

    private static void learnsLate() {
        // it SEES the THING when its rule says so, by the HOUR: 98 is the 99th HOUR
        Check c = Check.made("33.........", "0000", "02");
        c.light("0".repeat(19) + "9", 20);
        c.v.hours(1);
        Check.due("in the 19th", c.v.learns(0, 0), 19);
        Check d = Check.made("33.........", "0000", "02");
        d.light("00000000019", 11);
        d.rule("(l=9)*(n=0)*9", 0);
        // HOUR 10, 21, .. by 11 and 0 by 7: HOUR 21
        Check.due("in the 22nd", d.v.learns(0, 0), 22);
        d.light("0000000000000000009", 19);
        // 18 by 19 and n: 18, 37, 56 (n 0)
        Check.due("in the 57th", d.v.learns(0, 0), 57);
        d.rule("(l=9)*(n=4)*9", 0);
        // 18 (4)
        Check.due("in the 19th", d.v.learns(0, 0), 19);
        d.v.hours(19);
        // 37 2, 56 0, 75 5, 94 3, 113 1, 132 6, 151 4
        Check.due("known by then", d.v.learns(0, 0), 0);
        d.v.undo();
        d.rule("(l=9)*(n=1)*9", 0);
        Check.due("HOUR 113 is too far", d.v.learns(0, 0), -2);
        d.v.hours(14);
        Check.due("but not from HOUR 14 on: 100", d.v.learns(0, 0), -2);
        d.v.hours(1);
        Check.due("from HOUR 15 on: 99", d.v.learns(0, 0), 99);
        d.row("99", 1);
        Check.due("all in 99", d.v.all(), 99);
        d.row("all in 99", 0);
    }

    private static void all() {
        Check c = line();
        Check.due("all", c.v.all(), 3);
        c.row("the last one", 3);
        c.v.hours(1);
        Check.due("all", c.v.all(), 2);
        c.v.hours(1);
        Check.due("all", c.v.all(), 1);
        c.v.hours(1);
        Check.due("all do", c.v.all(), 0);
        c.row("all do", -1);
        Check d = line();
        d.v.puts(1, 1);
        d.v.steps(3, 6);
        // now 0, 1 and 2 SEE both or one: 2 and 3 on FIELD 2 SEE FIELD 1
        Check.due("all", d.v.all(), 2);
        d.row("the first of the last ones", 2);
        Check.due("in none", apart().v.all(), -2);
        Check e = Check.made("33.........", "0000", "");
        Check.due("without THINGS", e.v.all(), 0);
        e.row("without THINGS", -1);
        Check f = Check.made("33.........", "", "00");
        Check.due("without PEOPLE", f.v.all(), 0);
        f.row("without PEOPLE", -1);
    }

    private static void ahead() {
        Check c = line();
        Check.due("ahead(0)", c.v.ahead(0), 0);
        c.row("ahead(0)", 0, 0, 0, 0);
        Check.due("ahead(1)", c.v.ahead(1), 4);
        c.row("ahead(1)", 3, 3, 0, 0);
        Check.due("ahead(2)", c.v.ahead(2), 6);
        c.row("ahead(2)", 3, 3, 3, 0);
        Check.due("ahead(99)", c.v.ahead(99), 8);
        c.row("ahead(99)", 3, 3, 3, 3);
        Check.due("ahead(100)", c.v.ahead(100), -1);
        Check.due("ahead(-1)", c.v.ahead(-1), -1);
        c.row("stays", 3, 3, 3, 3);
        Check.due("nothing changes", c.v.count(6), 0);
        Check.due("nothing to undo", c.v.undo(), -1);
    }

    private static void gossip() {
        Check c = line();
        int[] rounds = {3, 2, 2, 3};
        for (int i = 0; i < 4; i++) {
            Check.due("gossip(" + i + ")", c.v.gossip(i), 15);
            c.row("gossip(" + i + ")", rounds[i]);
        }
        Check d = apart();
        Check.due("gossip(0)", d.v.gossip(0), 3);
        d.row("gossip(0)", 1);
        Check.due("gossip(2)", d.v.gossip(2), 12);
        d.v.steps(3, 6);
        d.v.steps(2, 2);
        Check.due("gossip(2)", d.v.gossip(2), 12);
        d.light("0", 1);
        d.rule("0", 0);
        Check.due("nobody else", d.v.gossip(2), 4);
        d.row("nobody else", 0);
        Check.due("gossip(4)", d.v.gossip(4), -1);
        Check.due("gossip(-1)", d.v.gossip(-1), -1);
        d.row("stays", 0);
    }
}
