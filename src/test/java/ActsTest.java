/** Promises 12 to 18, 45 and 46: hours, turns, steps, days, what is undone and what is kept. */
public final class ActsTest {
    public static void main(String[] args) {
        hours();
        hoursAtOnce();
        faces();
        steps();
        trims();
        puts();
        day();
        dayRefused();
        dayBadSigns();
        undo();
        undoDays();
        undoForgotten();
        keep();
        keptNoMore();
        Check.close("ActsTest");
    }

    private static void hours() {
        Check c = Check.made("33.........", "0044;2004", "10;22");
        // 0 looks down the left COLUMN: THING 0; 1 looks up it: THING 0; THING 1 is SEEN by nobody
        Check.due("hours(0)", c.v.hours(0), 0);
        c.row("hours(0)", 0, 0);
        Check.due("hours(1)", c.v.hours(1), 2);
        c.row("hours(1)", 2, 1);
        c.v.faces(1, 2);
        Check.due("hours(60)", c.v.hours(60), 3);
        c.row("hours(60)", 1, 3);
        Check.due("HOUR", c.v.count(4), 61);
        Check.due("hours(61)", c.v.hours(61), -1);
        Check.due("hours(-1)", c.v.hours(-1), -1);
        c.row("stays", 1, 3);
        Check.due("HOUR stays", c.v.count(4), 61);
    }

    private static void hoursAtOnce() {
        // a row of three who see all round: what 0 SEES takes an HOUR to each
        Check c = Check.made("33#########".replace("######", "...###"), "0000;0100;0200", "10");
        c.rule("r+1", 0);
        Check.due("first", c.v.hours(1), 2);
        Check.due("0 SEES it", c.v.person(0, 3), 1);
        Check.due("1 SEES it", c.v.person(1, 3), 1);
        Check.due("2 has not heard yet", c.v.person(2, 3), 0);
        Check.due("then", c.v.hours(1), 3);
        Check.due("2 has heard", c.v.person(2, 3), 1);
        // the LIGHT of the HOUR ahead counts
        Check d = Check.made("33.........", "0000", "02");
        d.light("09", 2);
        Check.due("dark", d.v.hours(1), 0);
        Check.due("light", d.v.hours(1), 1);
        // two who look at each other from afar tell nothing
        Check e = Check.made("33.........", "0024;0264", "00");
        e.rule("2", 0);
        e.v.hours(1);
        Check.due("1 SEES it itself", e.v.person(1, 3), 1);
        Check f = Check.made("33.........", "0024;0264;1000", "10");
        f.v.hours(5);
        Check.due("only the one there", f.v.count(6), 1);
        // one who is looked at from behind is told nothing
        Check g = Check.made("33.........", "0024;0124;1000", "10");
        g.v.hours(2);
        Check.due("0 SEES 1, 1 not 0", g.v.person(1, 3), 0);
    }

    private static void faces() {
        Check c = Check.made("33.........", "0000", "");
        int[] to = {0, 4, 7, 2, 1, 6, 5};
        int[] want = {0, 4, 3, 3, 1, 3, 1};
        for (int i = 0; i < to.length; i++) {
            Check.due("faces(0, " + to[i] + ")", c.v.faces(0, to[i]), want[i]);
            Check.due("FACING", c.v.person(0, 1), to[i]);
        }
        Check.due("faces(0, 8)", c.v.faces(0, 8), -1);
        Check.due("faces(0, -1)", c.v.faces(0, -1), -1);
        Check.due("faces(1, 0)", c.v.faces(1, 0), -1);
        Check.due("faces(-1, 0)", c.v.faces(-1, 0), -1);
        Check.due("FACING stays", c.v.person(0, 1), 5);
        Check.due("done ones alone can be undone", c.v.count(10), 7);
    }

    private static void steps() {
        Check c = Check.made("33.........", "1130", "");
        int[] field = {1, 2, 5, 8, 7, 6, 3, 0};
        int[] home = {4, 5, 6, 7, 0, 1, 2, 3};
        for (int way = 0; way < 8; way++) {
            Check.due("steps(0, " + way + ")", c.v.steps(0, way), field[way]);
            Check.due("FIELD", c.v.person(0, 0), field[way]);
            Check.due("back", c.v.steps(0, home[way]), 4);
        }
        Check.due("FACING stays", c.v.person(0, 1), 3);
        Check d = Check.made("33.#.......", "0000;2200", "");
        Check.due("a rock", d.v.steps(0, 2), -2);
        Check.due("no FIELD above", d.v.steps(0, 0), -2);
        Check.due("no FIELD to the left", d.v.steps(0, 5), -2);
        Check.due("no FIELD to the right", d.v.steps(1, 1), -2);
        Check.due("no FIELD below", d.v.steps(1, 4), -2);
        Check.due("another way", d.v.steps(0, 8), -1);
        Check.due("another way", d.v.steps(0, -1), -1);
        Check.due("none such", d.v.steps(2, 4), -1);
        Check.due("none such", d.v.steps(-1, 4), -1);
        Check.due("nothing to undo", d.v.undo(), -1);
        Check.due("by the rock's corner", d.v.steps(0, 3), 4);
        Check.due("several on one FIELD", d.v.steps(1, 7), 4);
    }

    private static void trims() {
        Check c = Check.made("33.........", "0003", "");
        Check.due("trims(0, 4)", c.v.trims(0, 4), 3);
        Check.due("trims(0, 4)", c.v.trims(0, 4), 4);
        Check.due("trims(0, 0)", c.v.trims(0, 0), 4);
        Check.due("BRIM", c.v.person(0, 2), 0);
        Check.due("trims(0, 5)", c.v.trims(0, 5), -1);
        Check.due("trims(0, -1)", c.v.trims(0, -1), -1);
        Check.due("trims(1, 0)", c.v.trims(1, 0), -1);
        Check.due("trims(-1, 0)", c.v.trims(-1, 0), -1);
        Check.due("BRIM stays", c.v.person(0, 2), 0);
        Check.due("can be undone", c.v.count(10), 3);
    }

    private static void puts() {
        Check c = Check.made("33.#.......", "0000", "00");
        c.v.hours(1);
        Check.due("puts(0, 1)", c.v.puts(0, 1), 0);
        Check.due("on a rock", c.v.thing(0, 0), 1);
        Check.due("PEOPLE KNOW of it as ahead", c.v.thing(0, 1), 1);
        Check.due("it is there", c.v.puts(0, 1), -2);
        Check.due("no FIELD", c.v.puts(0, 9), -1);
        Check.due("no FIELD", c.v.puts(0, -1), -1);
        Check.due("no THING", c.v.puts(1, 0), -1);
        Check.due("no THING", c.v.puts(-1, 0), -1);
        Check.due("puts(0, 8)", c.v.puts(0, 8), 1);
        Check.due("can be undone", c.v.count(10), 3);
    }

    private static void day() {
        Check c = Check.made("34............", "0000;2300", "00");
        c.day("n3f05g02b14p023", 5);
        c.row("day", 0, 3);
        Check.due("FACING", c.v.person(0, 1), 5);
        Check.due("FIELD", c.v.person(0, 0), 1);
        Check.due("BRIM", c.v.person(1, 2), 4);
        Check.due("THING", c.v.thing(0, 0), 11);
        Check.due("HOUR", c.v.count(4), 3);
        Check.due("as one", c.v.count(10), 1);
        c.day("", 0);
        c.row("an empty one", 0, 3);
        Check.due("nothing more to undo", c.v.count(10), 1);
        c.day("n0", 1);
        c.day("n1".repeat(30), 30);
        c.row("thirty", 0, 33);
    }

    private static void dayRefused() {
        Check c = Check.made("34.#..........", "0000;2300", "00");
        c.day("f01f08f02", 1);
        c.row("another FACING", 1, 0);
        Check.due("till then", c.v.person(0, 1), 1);
        c.day("g02n1", 0);
        c.row("a rock", 1, 0);
        Check.due("nothing was done", c.v.count(10), 1);
        c.day("f90", 0);
        c.day("g29", 0);
        c.day("b05", 0);
        c.day("p000", 0);
        c.day("p100", 0);
        c.day("n2p030", 1);
        c.row("no such ROW", 1, 2);
        c.day("p004", 0);
        c.row("no such COLUMN", 1, 2);
        c.day("p001p001", 1);
        c.row("it is there", 1, 2);
    }

    private static void dayBadSigns() {
        Check c = Check.made("33.........", "0000", "00");
        c.v.hidden();
        String[] bad = {"x", "0", "n", "nx", "n1x", "n12", "f", "f0", "f0x", "fx0", "g00g", "b0", "p00", "p00x", "n1 "};
        int[] at = {0, 0, 1, 1, 2, 2, 1, 2, 2, 1, 4, 2, 3, 3, 2};
        for (int i = 0; i < bad.length; i++) {
            c.day(bad[i], -1 - at[i]);
        }
        c.day("n1".repeat(30) + "n", -61);
        c.day("n1".repeat(30) + "x", -61);
        c.day("n1".repeat(29) + "f0", -61);
        c.day("n1".repeat(29) + "f00", -61);
        c.day("n1".repeat(29) + "f0x", -61);
        c.day("n1".repeat(29) + "fxx", -60);
        c.row("stays", 0, 0);
        Check.due("nothing is done", c.v.count(4), 0);
        Check.due("nothing to undo", c.v.undo(), -1);
    }

    private static void undo() {
        Check c = Check.made("33.........", "0044", "22");
        Check.due("none", c.v.undo(), -1);
        c.v.faces(0, 3);
        c.v.steps(0, 3);
        c.v.trims(0, 1);
        c.v.hours(2);
        c.v.puts(0, 0);
        Check.due("five", c.v.count(10), 5);
        Check.due("puts", c.v.undo(), 4);
        Check.due("THING", c.v.thing(0, 0), 8);
        Check.due("KNOWS", c.v.person(0, 3), 1);
        Check.due("hours", c.v.undo(), 3);
        Check.due("KNOWS", c.v.person(0, 3), 0);
        Check.due("HOUR", c.v.count(4), 0);
        Check.due("trims", c.v.undo(), 2);
        Check.due("BRIM", c.v.person(0, 2), 4);
        Check.due("steps", c.v.undo(), 1);
        Check.due("FIELD", c.v.person(0, 0), 0);
        Check.due("faces", c.v.undo(), 0);
        Check.due("FACING", c.v.person(0, 1), 4);
        Check.due("none left", c.v.undo(), -1);
        for (int i = 0; i < 20; i++) {
            c.v.faces(0, i % 8);
        }
        Check.due("the latest 15", c.v.count(10), 15);
        for (int i = 14; i >= 0; i--) {
            Check.due("undo " + i, c.v.undo(), i);
        }
        Check.due("as behind the fifth", c.v.person(0, 1), 4);
        Check.due("not the sixteenth", c.v.undo(), -1);
        c.v.hours(0);
        c.v.trims(0, 4);
        Check.due("done without a difference", c.v.count(10), 2);
        c.v.sheet(2, 1, 2, 0);
        c.v.undo();
        Check.due("BRIM as ahead of it", c.v.person(0, 2), 4);
    }

    private static void undoDays() {
        Check c = Check.made("33.........", "0000", "22");
        c.day("n1f03g03", 3);
        Check.due("as one", c.v.undo(), 0);
        Check.due("FIELD", c.v.person(0, 0), 0);
        Check.due("FACING", c.v.person(0, 1), 0);
        Check.due("HOUR", c.v.count(4), 0);
        c.day("f03g00", 1);
        Check.due("one of which an act was refused", c.v.undo(), 0);
        Check.due("FACING", c.v.person(0, 1), 0);
        c.day("g00f03", 0);
        Check.due("one of which none was done", c.v.undo(), -1);
    }

    private static void undoForgotten() {
        Check c = Check.made("33.........", "0000", "22");
        c.v.faces(0, 1);
        c.people("", 0);
        c.things("", 0);
        c.people("9", -1);
        c.things("00;", -4);
        c.v.again(0);
        Check.due("kept till now", c.v.count(10), 1);
        c.people("0000", 1);
        Check.due("people forget", c.v.undo(), -1);
        c.v.faces(0, 2);
        c.things("00", 1);
        Check.due("things forget", c.v.undo(), -1);
        c.v.keep(0);
        c.v.faces(0, 3);
        c.v.again(0);
        Check.due("again forgets", c.v.undo(), -1);
        c.v.faces(0, 3);
        c.light("5", 1);
        c.rule("b", 0);
        c.v.heard(0, 1);
        Check.due("light, rule, heard do not", c.v.undo(), 0);
        Check.due("nor are they undone", c.v.count(5), 5);
        Check.due("heard", c.v.count(9), 1);
    }

    private static void keep() {
        Check c = Check.made("33.........", "0000;1100", "22");
        Check.due("nothing kept", c.v.again(0), false);
        Check.due("keep(0)", c.v.keep(0), true);
        c.day("n3f03g13b02p000", 5);
        Check.due("keep(2)", c.v.keep(2), true);
        Check.due("keep(3)", c.v.keep(3), false);
        Check.due("keep(-1)", c.v.keep(-1), false);
        Check.due("again(0)", c.v.again(0), true);
        long[] first = {0, 0, 0, 4, 8, 0, 0};
        state(c, first);
        Check.due("again(2)", c.v.again(2), true);
        long[] second = {0, 3, 2, 8, 0, 3, 2};
        state(c, second);
        Check.due("again(2) twice", c.v.again(2), true);
        Check.due("again(1)", c.v.again(1), false);
        Check.due("again(3)", c.v.again(3), false);
        Check.due("again(-1)", c.v.again(-1), false);
        c.v.keep(0);
        c.v.faces(0, 7);
        c.v.again(0);
        state(c, second);
        Check.due("the ROW is not told anew", c.v.count(11), 2);
    }

    private static void state(Check c, long[] want) {
        Check.due("FIELD of 0", c.v.person(0, 0), want[0]);
        Check.due("FACING of 0", c.v.person(0, 1), want[1]);
        Check.due("BRIM of 0", c.v.person(0, 2), want[2]);
        Check.due("FIELD of 1", c.v.person(1, 0), want[3]);
        Check.due("FIELD of THING 0", c.v.thing(0, 0), want[4]);
        Check.due("HOUR", c.v.count(4), want[5]);
        Check.due("KNOWN", c.v.count(6), want[6]);
    }

    private static void keptNoMore() {
        Check c = Check.made("33.........", "0000", "22");
        c.v.keep(0);
        c.people("", 0);
        c.things("x", -1);
        Check.due("nobody came", c.v.again(0), true);
        c.people("0000", 1);
        Check.due("PEOPLE came", c.v.again(0), false);
        c.v.keep(0);
        c.things("00", 1);
        Check.due("THINGS came", c.v.again(0), false);
        c.v.keep(0);
        c.valley("33.........", 9);
        Check.due("THE VALLEY came", c.v.again(0), false);
    }
}
