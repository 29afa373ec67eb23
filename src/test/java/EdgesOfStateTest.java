/** Promises 9 to 11 and 45 to 48: each sentence that names a boundary, with a test of its own. */
public final class EdgesOfStateTest {
    private static final int LEAST = Integer.MIN_VALUE;
    private static final int MOST = Integer.MAX_VALUE;
    private static final String SMALL = "33.........";
    private static final String FOUR = "0001;0102;0203;1004";

    public static void main(String[] args) {
        person();
        thing();
        sheetEntries();
        sheetKinds();
        sheetRefused();
        keep();
        again();
        count();
        row();
        Check.close("EdgesOfStateTest");
    }

    private static void person() {
        Check.sentence(9, "what 0: its FIELD, 1: FACING, 2: BRIM, 3: THINGS that it KNOWS (bits)", () -> {
            Check c = Check.made("77" + ".".repeat(49), "0000;6674", "66;66;00;66;00;66;00;66");
            Check.due("the first FIELD", c.v.person(0, 0), 0);
            Check.due("the last FIELD", c.v.person(1, 0), 48);
            c.people(1, 0, 7);
            c.people(2, 0, 4);
            c.light("0", 1);
            c.v.hours(1);
            c.people(3, 0b01010100, 0b10101011);
        });
        Check.sentence(9, "4: REACH now, 5: THINGS that it SEES now (bits)", () -> {
            Check c = Check.made(SMALL, "0024;1100", "00;01;02;10;11;12;20;22");
            c.light("90", 2);
            c.people(4, 5, 9);
            c.people(5, 0b00000111, 0b11111111);
            c.v.hours(1);
            c.people(4, 0, 0);
            c.people(5, 0b00000001, 0b00010000);
        });
        Check.sentence(9, "NoSuchElementException: none such, another what", () -> {
            Check c = Check.made(SMALL, "0000;0100", "");
            Check.eachThrows("person of", i -> c.v.person(i, 0), 2, 7, 8, -1, LEAST, MOST);
            Check.eachThrows("what", w -> c.v.person(0, w), 6, -1, LEAST, MOST);
            c.v.person(1, 5);
        });
    }

    private static void thing() {
        Check.sentence(10, "what 0: its FIELD, 1: PEOPLE who KNOW of it (bits), 2: PEOPLE who SEE it now (bits)", () -> {
            Check c = Check.made(SMALL, "0000;0024;0044;0000;0000;0000;0000;2200", "00;22");
            Check.due("FIELD", c.v.thing(1, 0), 8);
            Check.due("nobody KNOWS", c.v.thing(0, 1), 0);
            Check.due("who SEE it", c.v.thing(0, 2), 255);
            Check.due("who SEE it", c.v.thing(1, 2), 0b11111001);
            c.light("0", 1);
            Check.due("in the dark", c.v.thing(1, 2), 128);
            c.v.hours(1);
            Check.due("who KNOW of it", c.v.thing(0, 1), 127);
            Check.due("who KNOW of it", c.v.thing(1, 1), 128);
        });
        Check.sentence(10, "NoSuchElementException: likewise", () -> {
            Check c = Check.made(SMALL, "0000", "00;01");
            Check.eachThrows("thing", i -> c.v.thing(i, 0), 2, 7, 8, -1, LEAST, MOST);
            Check.eachThrows("what", w -> c.v.thing(0, w), 3, -1, LEAST, MOST);
            c.v.thing(1, 2);
        });
    }

    private static void sheetEntries() {
        Check.sentence(11, "of n entries f, f + step, ..", () -> {
            Check c = Check.made(SMALL, FOUR, "");
            Check.due("up", c.v.sheet(2, 4, 0, 1), 6);
            c.people(2, 0, 1, 2, 3);
            Check.due("down", c.v.sheet(2, 4, 4, -1), 10);
            c.people(2, 4, 3, 2, 1);
            Check.due("all alike", c.v.sheet(2, 4, 3, 0), 12);
            c.people(2, 3, 3, 3, 3);
            // more entries than PEOPLE: those beyond are nobody's
            Check.due("eight entries", c.v.sheet(2, 8, 1, 0), 4);
            c.people(2, 1, 1, 1, 1);
        });
        Check.sentence(11, "of bytes, shorts the lowest bits, with their sign", () -> {
            Check c = Check.made(SMALL, "0000", "");
            int[][] cases = {
                {0, 127, 4}, {0, 128, 0}, {0, 255, 0}, {0, 256, 0}, {0, 257, 1}, {0, 259, 3}, {0, -1, 0}, {0, -128, 0},
                {0, -129, 4}, {0, -254, 2}, {0, MOST, 0}, {0, LEAST, 0}, {0, LEAST + 3, 3},
                {1, 32767, 4}, {1, 32768, 0}, {1, 65535, 0}, {1, 65536, 0}, {1, 65538, 2}, {1, -32768, 0},
                {1, -32769, 4}, {1, 257, 4}, {1, 128, 4}, {1, -65533, 3}, {1, MOST, 0}, {1, LEAST + 1, 1},
                {2, 65536, 4}, {2, 32768, 4}, {2, 128, 4}, {2, MOST, 4}, {2, LEAST, 0}, {2, -1, 0}, {2, 2, 2}
            };
            for (int[] x : cases) {
                Check.due("sheet(" + x[0] + ", 1, " + x[1] + ", 0)", c.v.sheet(x[0], 1, x[1], 0), x[2]);
                c.people(2, x[2]);
            }
        });
        Check.sentence(11, "put to 0 .. 4", () -> {
            Check c = Check.made(SMALL, "0000;0000;0000;0000;0000;0000;0000;0000", "");
            for (int kind = 0; kind < 3; kind++) {
                Check.due("kind " + kind, c.v.sheet(kind, 8, -1, 1), 18);
                c.people(2, 0, 0, 1, 2, 3, 4, 4, 4);
            }
            Check.due("round at the greatest int", c.v.sheet(2, 8, MOST - 1, 1), 8);
            c.people(2, 4, 4, 0, 0, 0, 0, 0, 0);
            Check.due("round at the greatest short", c.v.sheet(1, 8, 32766, 1), 8);
            c.people(2, 4, 4, 0, 0, 0, 0, 0, 0);
            Check.due("round at the greatest byte", c.v.sheet(0, 8, 126, 1), 8);
            c.people(2, 4, 4, 0, 0, 0, 0, 0, 0);
            // 0, the least int, 0, ..
            Check.due("round by a great step", c.v.sheet(2, 8, 2, LEAST), 8);
            c.people(2, 2, 0, 2, 0, 2, 0, 2, 0);
            Check.due("bytes see nothing of it", c.v.sheet(0, 8, 2, LEAST), 16);
            c.people(2, 2, 2, 2, 2, 2, 2, 2, 2);
        });
    }

    private static void sheetKinds() {
        Check.sentence(11, "those behind it have 0: the sum of all", () -> {
            Check c = Check.made(SMALL, FOUR, "");
            for (int kind = 0; kind < 3; kind++) {
                for (int n = 4; n >= 0; n--) {
                    Check.due("n " + n, c.v.sheet(kind, n, 2, 0), 2 * n);
                    c.people(2, n > 0 ? 2 : 0, n > 1 ? 2 : 0, n > 2 ? 2 : 0, n > 3 ? 2 : 0);
                }
            }
            Check nobody = new Check();
            Check.due("nobody", nobody.v.sheet(2, 8, 4, 0), 0);
            nobody.people("0003", 1);
            nobody.people(2, 3);
        });
        Check.sentence(11, "-3: missing (all 0)", () -> {
            for (int n : new int[] {0, 8, 1, -1, LEAST}) {
                Check c = Check.made(SMALL, FOUR, "");
                Check.due("n " + n, c.v.sheet(3, n, 4, 1), -3);
                c.people(2, 0, 0, 0, 0);
            }
        });
    }

    private static void sheetRefused() {
        Check.sentence(11, "-2: n below 0 (of kinds 0 .. 2; nothing changes)", () -> {
            Check c = Check.made(SMALL, FOUR, "");
            for (int kind = 0; kind < 3; kind++) {
                int k = kind;
                Check.each("kind " + kind + ", n", n -> c.v.sheet(k, n, 4, 0), -2, -1, -8, LEAST);
            }
            c.people(2, 1, 2, 3, 4);
        });
        Check.sentence(11, "NONE: another kind, n above 8 (these first)", () -> {
            Check c = Check.made(SMALL, FOUR, "");
            Check.each("kind", k -> c.v.sheet(k, 4, 0, 0), -1, 4, -1, LEAST, MOST);
            Check.each("kind, n below 0", k -> c.v.sheet(k, -1, 0, 0), -1, 4, -1, LEAST, MOST);
            for (int kind = 0; kind <= 3; kind++) {
                int k = kind;
                Check.each("kind " + kind + ", n", n -> c.v.sheet(k, n, 0, 0), -1, 9, MOST);
            }
            c.people(2, 1, 2, 3, 4);
        });
    }

    private static void keep() {
        Check.sentence(45, "is kept under a number 0 .. 2: true", () -> {
            Check c = Check.made(SMALL, "0000", "");
            for (int i = 0; i < 3; i++) {
                c.v.faces(0, i + 1);
                Check.due("keep(" + i + ")", c.v.keep(i), true);
            }
            for (int i : new int[] {1, 0, 2, 2, 0}) {
                Check.due("again(" + i + ")", c.v.again(i), true);
                c.people(1, i + 1);
            }
            c.v.faces(0, 7);
            c.v.keep(1);
            c.v.again(0);
            c.v.again(1);
            c.people(1, 7);
        });
        Check.sentence(45, "What undo() brings back", () -> {
            Check c = Check.made(SMALL, "0000", "00;22");
            c.v.keep(0);
            Twin.read(c.v, "n1f03g03b02p022", BonnetValley::day);
            c.light("5", 1);
            c.rule("1", 0);
            c.v.heard(0, 1);
            c.v.again(0);
            c.people(0, 0);
            c.people(1, 0);
            c.people(2, 0);
            c.people(3, 0);
            Check.due("THING", c.v.thing(0, 0), 0);
            Check.due("HOUR", c.v.count(4), 0);
            Check.due("LIGHT is as it is", c.v.count(5), 5);
            c.people(4, 1);
            Check.due("what was heard is as it is", c.v.count(9), 1);
        });
        Check.sentence(45, "Refused: others", () -> {
            Check c = new Check();
            Check.each("keep", i -> c.v.keep(i) ? 1 : 0, 0, 3, -1, 32, 33, LEAST, MOST);
            Check.each("again", i -> c.v.again(i) ? 1 : 0, 0, 0, 1, 2);
        });
    }

    private static void again() {
        Check.sentence(46, "Refused: nothing kept, THE VALLEY, PEOPLE or THINGS came since", () -> {
            Check c = Check.made(SMALL, "0000", "00");
            c.v.keep(1);
            Check.each("nothing kept", i -> c.v.again(i) ? 1 : 0, 0, 0, 2, 3, -1, 33, LEAST, MOST);
            Check.due("kept", c.v.again(1), true);
            c.people("", 0);
            c.people("x", -1);
            c.things("", 0);
            c.things("x", -1);
            c.valley("", -1);
            Check.due("nothing came", c.v.again(1), true);
            c.people("0000", 1);
            Check.due("PEOPLE came", c.v.again(1), false);
            c.v.keep(1);
            Check.due("kept since", c.v.again(1), true);
            c.things("00", 1);
            Check.due("THINGS came", c.v.again(1), false);
            c.v.keep(1);
            c.valley(SMALL, 9);
            Check.due("THE VALLEY came", c.v.again(1), false);
        });
    }

    private static void count() {
        Check.sentence(47, "-100 for another what", () -> {
            Check c = new Check();
            Check.each("count", c.v::count, -100, 13, -1, 100, LEAST, MOST);
        });
        Check.sentence(47, "11: numbers of the ROW, 12: signs of THE TEXT", () -> {
            Check c = new Check();
            Check.due("numbers at first", c.v.count(11), 0);
            Check.due("signs at first", c.v.count(12), 0);
            c.text("8".repeat(80));
            Check.due("signs", c.v.count(12), 80);
            Check.due("law", c.v.law(), -10003);
            Check.due("signs read", c.v.count(12), 0);
            c.valley("77" + "......." + "######." + "......." + ".######" + "......." + "######." + ".......", 49);
            c.v.back(0, 42);
            Check.due("numbers of a long ROW", c.v.count(11), 25);
        });
        Check.sentence(47, "6: how much all KNOW together, 7: rocks, 8: FIELDS that somebody SEES", () -> {
            Check c = Check.made(SMALL, "1100;1100;1100;1100;1100;1100;1100;1100", "00;01;02;10;12;20;21;22");
            Check.due("nothing", c.v.count(6), 0);
            c.v.hours(1);
            Check.due("all KNOW all", c.v.count(6), 64);
            Check.due("FIELDS", c.v.count(8), 9);
            Check.due("rocks", c.v.count(7), 0);
            c.light("0", 1);
            Check.due("one FIELD", c.v.count(8), 1);
            c.valley("33########.", 9);
            Check.due("nobody", c.v.count(6) + c.v.count(8), 0);
            Check.due("rocks", c.v.count(7), 8);
        });
        Check.sentence(47, "9: what was heard, 10: what can be undone", () -> {
            Check c = Check.made(SMALL, "1100", "");
            for (int i = 1; i <= 20; i++) {
                c.v.faces(0, i % 8);
                c.v.heard(0, 1);
                Check.due("what was heard", c.v.count(9), Math.min(i, 10));
                Check.due("what can be undone", c.v.count(10), Math.min(i, 15));
            }
        });
    }

    private static void row() {
        Check.sentence(48, "NoSuchElementException: none such", () -> {
            Check c = Check.made(SMALL, "", "");
            Check.eachThrows("row at first", c.v::row, 0, -1, LEAST, MOST);
            c.v.hidden();
            Check.due("row(0)", c.v.row(0), 9);
            Check.due("row(1)", c.v.row(1), 0);
            Check.eachThrows("row", c.v::row, 2, -1, LEAST, MOST);
            c.v.lost();
            Check.due("row(0)", c.v.row(0), 9);
            Check.eachThrows("row", c.v::row, 1, 2);
        });
    }
}
