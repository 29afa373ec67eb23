/** Promises 30 to 39: each sentence that names a boundary, with a test of its own. */
public final class EdgesOfSearchTest {
    private static final int LEAST = Integer.MIN_VALUE;
    private static final int MOST = Integer.MAX_VALUE;
    private static final String SMALL = "33.........";
    private static final String WIDE = "77" + ".".repeat(49);
    /** The FIELDS round the middle one of SMALL, by ways. */
    private static final int[] ROUND = {1, 2, 5, 8, 7, 6, 3, 0};

    public static void main(String[] args) {
        eighths();
        turned();
        turnedFull();
        best();
        bears();
        back();
        backEnds();
        open();
        heard();
        lost();
        asks();
        Check.close("EdgesOfSearchTest");
    }

    private static void eighths() {
        Check.sentence(30, "FACING then (of as few the least number)", () -> {
            int[] off = {0, 1, 2, 3, 4, 3, 2, 1};
            for (int facing = 0; facing < 8; facing++) {
                Check c = Check.made(SMALL, "1100", "");
                for (int brim = 0; brim <= 4; brim++) {
                    c.v.faces(0, facing);
                    c.v.trims(0, brim);
                    for (int turn = 0; turn < 8; turn++) {
                        int way = (facing + turn) % 8;
                        int due = Math.max(0, off[turn] - (4 - brim));
                        // right behind one both turns are as short
                        int right = (facing + due) % 8;
                        int left = (facing - due + 8) % 8;
                        int then = turn == 4 ? Math.min(right, left) : turn < 4 ? right : left;
                        String what = "FACING " + facing + ", BRIM " + brim + ", way " + way;
                        Check.due(what, c.v.eighths(0, ROUND[way]), due);
                        c.row(what, then);
                    }
                    Check.due("its own FIELD", c.v.eighths(0, 4), 0);
                    c.row("its own FIELD", facing);
                }
            }
        });
        Check.sentence(30, "-2: by none", () -> {
            Check c = Check.made(WIDE, "0000", "");
            c.rule("5", 0);
            Check.due("5 off", c.v.eighths(0, 40), 0);
            Check.due("6 off", c.v.eighths(0, 48), -2);
            c.row("it stays", 0);
            Check rock = Check.made("33.#.......", "0000", "");
            Check.due("the rock", rock.v.eighths(0, 1), 0);
            Check.due("behind it", rock.v.eighths(0, 2), -2);
            rock.light("0", 1);
            Check.due("in the dark", rock.v.eighths(0, 3), -2);
            Check.due("its own FIELD", rock.v.eighths(0, 0), 0);
        });
        Check.sentence(30, "(REACH as it is)", () -> {
            Check c = Check.made(SMALL, "1144", "");
            c.rule("f/4", 0);
            Check.due("FACING 0, by which it would SEE nothing", c.v.eighths(0, 1), 4);
            c.row("FACING then", 0);
            c.v.faces(0, 0);
            Check.due("FACING 4, by which it would", c.v.eighths(0, 7), -2);
        });
        Check.sentence(30, "NONE: none such", () -> {
            Check c = Check.made(SMALL, "0000;0000", "");
            Check.each("person", i -> c.v.eighths(i, 0), -1, 2, 7, 8, -1, LEAST, MOST);
            Check.each("field", f -> c.v.eighths(0, f), -1, 9, 48, 64, -1, LEAST, MOST);
            Check.due("no ROW", c.v.count(11), 0);
        });
    }

    private static void turned() {
        Check.sentence(31, "so that each THING is SEEN by somebody: how many", () -> {
            Check none = Check.made(SMALL, "1134;1164", "");
            Check.due("no THINGS", none.v.turned(), 0);
            none.row("no THINGS", 3, 6);
            Check nobody = new Check();
            Check.due("neither", nobody.v.turned(), 0);
            nobody.row("neither");
            Check own = Check.made(SMALL, "1134", "11");
            Check.due("on its own FIELD", own.v.turned(), 0);
            own.row("on its own FIELD", 3);
        });
        Check.sentence(31, "by PEOPLE FACING then (who is not turned: its own): of as few the least row", () -> {
            Check c = Check.made(SMALL, "1174;1174;1174", "12");
            // one of three has to look right: the first, since 2 is less than 7
            Check.due("one", c.v.turned(), 1);
            c.row("the first", 2, 7, 7);
            Check d = Check.made(SMALL, "1104;1104;1104", "12");
            Check.due("one", d.v.turned(), 1);
            d.row("the last, since 0 is less than 2", 0, 0, 2);
            Check e = Check.made(SMALL, "1172", "12");
            // by BRIM 2 it SEES the right FIELD, FACING 0 .. 4
            Check.due("one", e.v.turned(), 1);
            e.row("the least FACING", 0);
            e.v.faces(0, 4);
            Check.due("none", e.v.turned(), 0);
            e.row("its own, though 0 is less", 4);
        });
        Check.sentence(31, "-2: it can't be so", () -> {
            Check nobody = Check.made(SMALL, "", "00");
            Check.due("nobody", nobody.v.turned(), -2);
            Check.due("no ROW", nobody.v.count(11), 0);
            Check hid = Check.made("33.#.......", "0000", "02");
            Check.due("behind a rock", hid.v.turned(), -2);
            Check two = Check.made(SMALL, "1104", "01;21");
            Check.due("on both sides of one", two.v.turned(), -2);
            two.people("1104", 1);
            Check.due("of two", two.v.turned(), 1);
            two.row("of two", 0, 4);
        });
        Check.sentence(31, "(each to any FACING; REACH as it is now)", () -> {
            Check c = Check.made(SMALL, "1144", "01");
            c.rule("f/4", 0);
            Check.due("by REACH 1", c.v.turned(), 1);
            c.row("by REACH 1", 0);
            c.v.faces(0, 2);
            Check.due("by REACH 0", c.v.turned(), -2);
        });
    }

    private static void turnedFull() {
        Check.sentence(31, "The fewest PEOPLE to be turned", () -> {
            Check c = Check.made(SMALL, "1174;1164;1154;1144;1134;1124;1114;1104", "00;01;02;10;12;20;21;22");
            Check.due("eight look all round", c.v.turned(), 0);
            c.row("as they look", 7, 6, 5, 4, 3, 2, 1, 0);
            for (int i = 0; i < 8; i++) {
                c.v.faces(i, 7);
            }
            Check.due("seven of eight", c.v.turned(), 7);
            c.row("seven of eight", 0, 1, 2, 3, 4, 5, 6, 7);
            c.v.puts(0, 4);
            Check.due("no more than seven have to be SEEN", c.v.turned(), 7);
            c.row("the last need not be turned", 0, 1, 2, 3, 4, 5, 6, 7);
        });
    }

    private static void best() {
        Check.sentence(32, "it, of equal ones the least; the ROW: THINGS (bits)", () -> {
            Check c = Check.made(SMALL, "1144", "");
            Check.due("no THINGS", c.v.best(0), 0);
            c.row("no THINGS", 0);
            c.things("22;00", 2);
            Check.due("3 and 7", c.v.best(0), 3);
            c.row("3 and 7", 1);
            c.things("00", 1);
            Check.due("two are more", c.v.best(0), 7);
            c.row("two are more", 6);
            c.light("0", 1);
            Check.due("in the dark", c.v.best(0), 0);
            c.row("in the dark", 0);
            Check full = Check.made(SMALL, "1173", "12;12;12;12;12;12;12;12");
            Check.due("1, 2 and 3", full.v.best(0), 1);
            full.row("1, 2 and 3", 255);
        });
        Check.sentence(32, "by which it SEES the most THINGS now (REACH as it is)", () -> {
            Check c = Check.made(SMALL, "1104", "01;12;12");
            c.rule("f=0", 0);
            Check.due("2, by which it would SEE none", c.v.best(0), 2);
            c.row("2", 6);
        });
        Check.sentence(32, "NONE: none such", () -> {
            Check c = Check.made(SMALL, "0000;0000", "");
            Check.each("best", c.v::best, -1, 2, 7, 8, -1, LEAST, MOST);
            Check.due("no ROW", c.v.count(11), 0);
        });
    }

    private static void bears() {
        Check.sentence(33, "The greatest BRIM (0 .. 4) with which one would SEE a FIELD now: it; the ROW: REACH by it", () -> {
            Check c = Check.made(SMALL, "1100", "");
            int[] brim = {4, 3, 2, 1, 0, 1, 2, 3};
            for (int way = 0; way < 8; way++) {
                Check.due("way " + way, c.v.bears(0, ROUND[way]), brim[way]);
                c.row("way " + way, 9 - brim[way]);
            }
            c.light("1", 1);
            Check.due("ahead, by REACH 1", c.v.bears(0, 1), 0);
            c.row("ahead", 1);
            Check.due("its own FIELD", c.v.bears(0, 4), 4);
            c.row("its own FIELD: REACH put to 0", 0);
            // the farther the greater: 4 sees far, and its own BRIM does not count
            c.rule("b", 0);
            Check.due("by b", c.v.bears(0, 1), 4);
            c.row("by b", 4);
            c.people(2, 0);
        });
        Check.sentence(33, "-2: by none", () -> {
            Check c = Check.made(WIDE, "0000", "");
            c.light("5", 1);
            Check.due("5 off", c.v.bears(0, 5), 0);
            c.row("5 off", 5);
            Check.due("6 off", c.v.bears(0, 6), -2);
            c.row("it stays", 5);
            Check rock = Check.made("33.#.......", "0020", "");
            Check.due("the rock", rock.v.bears(0, 1), 4);
            Check.due("behind it", rock.v.bears(0, 2), -2);
        });
        Check.sentence(33, "NONE: none such", () -> {
            Check c = Check.made(SMALL, "0000;0000", "");
            Check.each("person", i -> c.v.bears(i, 0), -1, 2, 7, 8, -1, LEAST, MOST);
            Check.each("field", f -> c.v.bears(0, f), -1, 9, 48, 64, -1, LEAST, MOST);
            Check.due("no ROW", c.v.count(11), 0);
        });
    }

    private static void back() {
        Check.sentence(34, "how many; the ROW: FIELDS in turn: of as short ways the least row", () -> {
            Check c = Check.made("35" + ".".repeat(15), "", "");
            Check.due("right", c.v.back(5, 9), 4);
            c.row("above", 5, 1, 2, 3, 9);
            Check.due("left", c.v.back(9, 5), 4);
            c.row("above", 9, 3, 2, 1, 5);
            Check.due("below", c.v.back(10, 14), 4);
            c.row("up first, then as high as it goes", 10, 6, 2, 8, 14);
            Check.due("beside", c.v.back(0, 6), 1);
            c.row("beside", 0, 6);
            Check.due("to where one is", c.v.back(7, 7), 0);
            c.row("to where one is", 7);
            Check big = Check.made(WIDE, "", "");
            Check.due("from corner to corner", big.v.back(0, 48), 6);
            big.row("across", 0, 8, 16, 24, 32, 40, 48);
        });
        Check.sentence(34, "over FIELDS that nobody SEES now (both ends aside, which are no rocks)", () -> {
            Check c = Check.made("35" + ".".repeat(15), "1124;1164", "");
            // the middle ROW is SEEN, and what lies far to the right above and below it
            Check.due("from a FIELD that is SEEN to another", c.v.back(5, 7), 2);
            c.row("above", 5, 1, 7);
            Check.due("across", c.v.back(1, 11), -2);
            Check.due("one step needs nothing between", c.v.back(5, 6), 1);
            c.row("one step", 5, 6);
            Check.due("to where one is, though it is SEEN", c.v.back(6, 6), 0);
            c.row("to where one is", 6);
        });
    }

    private static void backEnds() {
        Check.sentence(34, "-2: there is none, or an end is a rock", () -> {
            Check c = Check.made("33.#.##....", "", "");
            Check.due("shut in", c.v.back(0, 8), -2);
            Check.due("shut out", c.v.back(8, 0), -2);
            Check.due("from a rock", c.v.back(1, 2), -2);
            Check.due("to a rock", c.v.back(2, 1), -2);
            Check.due("on a rock", c.v.back(1, 1), -2);
            Check.due("in the corner", c.v.back(0, 0), 0);
            c.row("in the corner", 0);
        });
        Check.sentence(34, "NONE: none such", () -> {
            Check c = Check.made("33.#.##....", "", "");
            Check.each("from", f -> c.v.back(f, 0), -1, 9, 48, 64, -1, LEAST, MOST);
            Check.each("to", f -> c.v.back(0, f), -1, 9, 48, 64, -1, LEAST, MOST);
            Check.each("to, from a rock", f -> c.v.back(1, f), -1, 9, -1);
            Check.each("from, to a rock", f -> c.v.back(f, 1), -1, 9, -1);
            Check.due("no ROW", c.v.count(11), 0);
        });
    }

    private static void open() {
        Check.sentence(35, "how many FIELDS on the least row of these somebody SEES now (both ends, too)", () -> {
            Check c = Check.made("35" + ".".repeat(15), "1124;1164", "");
            Check.due("5 1 7", c.v.open(5, 7), 2);
            c.row("both ends", 2);
            Check.due("5 1 2 8", c.v.open(5, 8), 3);
            c.row("both ends", 2);
            Check.due("1 5 11", c.v.open(1, 11), 2);
            c.row("the one between", 1);
            Check.due("5 6", c.v.open(5, 6), 1);
            c.row("both", 2);
            Check.due("where one is", c.v.open(5, 5), 0);
            c.row("one FIELD", 1);
            Check.due("where one is", c.v.open(1, 1), 0);
            c.row("none", 0);
            Check nobody = Check.made(WIDE, "", "");
            Check.due("corner to corner", nobody.v.open(48, 0), 6);
            nobody.row("nobody", 0);
            nobody.people("3300", 1);
            Check.due("corner to corner", nobody.v.open(48, 0), 6);
            nobody.row("all seven", 7);
        });
        Check.sentence(35, "-2, NONE: likewise", () -> {
            Check c = Check.made("33.#.##....", "2200", "");
            Check.due("shut in", c.v.open(0, 8), -2);
            Check.due("shut out", c.v.open(8, 0), -2);
            Check.due("from a rock", c.v.open(1, 2), -2);
            Check.due("to a rock", c.v.open(2, 1), -2);
            Check.due("on a rock", c.v.open(1, 1), -2);
            Check.each("from", f -> c.v.open(f, 0), -1, 9, 48, 64, -1, LEAST, MOST);
            Check.each("to", f -> c.v.open(0, f), -1, 9, 48, 64, -1, LEAST, MOST);
            Check.each("to, from a rock", f -> c.v.open(1, f), -1, 9, -1);
            Check.due("no ROW", c.v.count(11), 0);
        });
    }

    private static void heard() {
        Check.sentence(36, "or does not (0): how many such", () -> {
            Check c = Check.made(SMALL, "0024;2200", "");
            Check.due("it does not", c.v.heard(0, 0), 1);
            Check.due("not there", c.v.lost(), 511 - 7);
            Check.due("it does", c.v.heard(1, 1), 2);
            Check.due("there", c.v.lost(), 511 - 7);
            Check.due("the same once more counts", c.v.heard(1, 1), 3);
        });
        Check.sentence(36, "Refused: others, 10", () -> {
            Check c = Check.made(SMALL, "0024;2200", "");
            Check.each("is", is -> c.v.heard(0, is), -1, 2, -1, LEAST, MOST);
            Check.each("person", i -> c.v.heard(i, 1), -1, 2, 7, 8, -1, LEAST, MOST);
            Check.due("none", c.v.count(9), 0);
            for (int i = 1; i <= 10; i++) {
                Check.due("up to 10", c.v.heard(1, 1), i);
            }
            Check.due("an eleventh", c.v.heard(0, 1), -1);
            Check.due("an eleventh", c.v.heard(0, 0), -1);
            Check.due("ten", c.v.count(9), 10);
            Check.due("which change nothing", c.v.lost(), 511);
            c.v.forget();
            Check.due("there is room again", c.v.heard(0, 1), 1);
        });
        Check.sentence(37, "It is forgotten: how many there were", () -> {
            Check c = Check.made(SMALL, "0024", "");
            Check.due("none", c.v.forget(), 0);
            for (int i = 0; i < 12; i++) {
                c.v.heard(0, 1);
            }
            Check.due("ten", c.v.forget(), 10);
            Check.due("none", c.v.forget(), 0);
            Check.due("anywhere", c.v.lost(), 511);
        });
    }

    private static void lost() {
        Check.sentence(38, "FIELDS that are no rock (bits) where it may be by all that was heard; the ROW: how many", () -> {
            Check c = Check.made("77" + "#" + ".".repeat(47) + "#", "3300", "");
            Check.due("nothing was heard", c.v.lost(), (1L << 48) - 2);
            c.row("nothing was heard", 47);
            c.v.heard(0, 1);
            Check.due("it SEES the rocks, too", c.v.lost(), (1L << 48) - 2);
            c.light("0", 1);
            c.v.heard(0, 1);
            Check.due("its own FIELD", c.v.lost(), 1L << 24);
            c.row("its own FIELD", 1);
            c.v.heard(0, 0);
            Check.due("nowhere", c.v.lost(), 0);
            c.row("nowhere", 0);
            Check rocks = Check.made("33#########", "", "");
            Check.due("rocks alone", rocks.v.lost(), 0);
            rocks.row("rocks alone", 0);
        });
    }

    private static void asks() {
        Check.sentence(39, "the fewest of these FIELDS are left at most; of equal ones the first: it; the ROW: how many at most", () -> {
            Check c = Check.made(SMALL, "1104;1104;0024;0024", "");
            // 0 and 1 SEE 2 of 9, 2 and 3 SEE 3
            Check.due("the third", c.v.asks(), 2);
            c.row("the third", 6);
            c.v.heard(2, 0);
            // of the lower 6 FIELDS 0 and 1 SEE one, 2 and 3 none
            Check.due("the first", c.v.asks(), 0);
            c.row("the first", 5);
            Check one = Check.made(SMALL, "1100", "");
            Check.due("who SEES all", one.v.asks(), 0);
            one.row("who SEES all", 9);
            Check full = Check.made(WIDE, "3300", "");
            Check.due("who SEES all 49", full.v.asks(), 0);
            full.row("who SEES all 49", 49);
            full.light("0", 1);
            Check.due("who SEES one of 49", full.v.asks(), 0);
            full.row("who SEES one of 49", 48);
            // whoever SEES all of them tells as little as who SEES none
            Check two = Check.made(SMALL, "1100;0064", "");
            Check.due("all but one", two.v.asks(), 1);
            two.row("all but one", 8);
        });
        Check.sentence(39, "-2: there is no such FIELD, or there are no PEOPLE", () -> {
            Check nobody = new Check();
            Check.due("nobody", nobody.v.asks(), -2);
            Check none = Check.made(SMALL, "1100", "");
            none.v.heard(0, 0);
            none.v.hidden();
            Check.due("nowhere", none.v.asks(), -2);
            none.row("hidden", 0, 0);
            none.v.forget();
            Check.due("there is again", none.v.asks(), 0);
        });
    }
}
