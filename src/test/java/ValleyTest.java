/** Promises 1 to 7, 9 to 11, 47 and 48: the valley, people, things, light, and what is told of them. */
public final class ValleyTest {
    public static void main(String[] args) {
        newObject();
        signAndEnd();
        valley();
        valleyAnew();
        people();
        peopleWithoutRoom();
        things();
        light();
        person();
        thing();
        sheet();
        count();
        row();
        Check.close("ValleyTest");
    }

    private static void newObject() {
        Check c = new Check();
        long[] want = {3, 3, 0, 0, 0, 9, 0, 0, 0, 0, 0, 0, 0};
        for (int what = 0; what < want.length; what++) {
            Check.due("new: count(" + what + ")", c.v.count(what), want[what]);
        }
        Check.due("NONE", BonnetValley.NONE, -1);
        for (int i = 0; i < 3; i++) {
            Check.due("new: again(" + i + ")", c.v.again(i), false);
        }
        Check.due("new: undo", c.v.undo(), -1);
        Check.due("new: hidden", c.v.hidden(), 511);
    }

    private static void signAndEnd() {
        Check c = new Check();
        for (int i = 1; i <= 20; i++) {
            Check.due("sign " + i, c.v.sign(0x37372e2e), 4 * i);
        }
        Check.due("sign beyond 80", c.v.sign(0), -1);
        Check.due("signs of THE TEXT", c.v.count(12), 80);
        Check.due("end(81)", c.v.end(81), false);
        Check.due("end(-1)", c.v.end(-1), false);
        Check.due("end(80)", c.v.end(80), true);
        Check.due("end(77)", c.v.end(77), true);
        Check.due("sign that would make 81", c.v.sign(0), -1);
        Check.due("sign leaves 77", c.v.count(12), 77);
        Check.due("end(76)", c.v.end(76), true);
        Check.due("sign up to 80", c.v.sign(0), 80);
        Check.due("end(0)", c.v.end(0), true);
        Check.due("end(1) of none", c.v.end(1), false);
        // the highest byte first, and bytes above 127 as signs
        c.v.sign('3' << 24 | '4' << 16 | '.' << 8 | '#');
        c.v.sign(0x2e2e2e2e);
        c.v.sign(0x2e2e2e2e);
        c.v.sign(0x2e2e2e80);
        c.v.end(14);
        Check.due("valley of 3 and 4", c.v.valley(), 12);
        Check.due("one rock", c.v.count(7), 1);
        c.v.sign(0xff000000);
        Check.due("a sign 255", c.v.valley(), -1);
    }

    private static void valley() {
        Check c = new Check();
        c.valley("", -1);
        c.valley("2", -1);
        c.valley("8", -1);
        c.valley("x3", -1);
        c.valley("3", -2);
        c.valley("32", -2);
        c.valley("38", -2);
        c.valley("33", -3);
        c.valley("33........", -11);
        c.valley("33...x.....", -6);
        c.valley("33..........", -12);
        c.valley("33.........x", -12);
        Check.due("refused: rows", c.v.count(0), 3);
        c.valley("37" + ".".repeat(21), 21);
        Check.due("rows", c.v.count(0), 3);
        Check.due("columns", c.v.count(1), 7);
        c.valley("77" + "#".repeat(49), 49);
        Check.due("rocks", c.v.count(7), 49);
        c.valley("77" + "#".repeat(50), -52);
        c.valley("53" + "#".repeat(14) + ".", 15);
        Check.due("rows", c.v.count(0), 5);
        Check.due("rocks", c.v.count(7), 14);
        c.people("0000", -2);
        c.people("4200", 1);
    }

    private static void valleyAnew() {
        Check c = Check.made("33.........", "0000;1100", "00");
        c.light("57", 2);
        c.rule("l", 0);
        c.v.hours(3);
        c.v.heard(0, 1);
        c.v.keep(1);
        c.valley("33...", -6);
        Check.due("refused: people stay", c.v.count(2), 2);
        Check.due("refused: hour stays", c.v.count(4), 3);
        Check.due("refused: undo stays", c.v.count(10), 1);
        c.valley("33.........", 9);
        long[] want = {3, 3, 0, 0, 0, 5, 0, 0, 0, 0, 0};
        for (int what = 0; what < want.length; what++) {
            Check.due("anew: count(" + what + ")", c.v.count(what), want[what]);
        }
        Check.due("anew: nothing kept", c.v.again(1), false);
        Check.due("anew: nothing to undo", c.v.undo(), -1);
        c.people("0004", 1);
        Check.due("anew: RULE stays", c.v.person(0, 4), 5);
        Check.due("anew: it may be anywhere", c.v.lost(), 511);
    }

    private static void people() {
        Check c = new Check();
        c.people("", 0);
        c.people("x", -1);
        c.people("3", -1);
        c.people("0", -2);
        c.people("03", -2);
        c.people("00", -3);
        c.people("008", -3);
        c.people("009", -3);
        c.people("000", -4);
        c.people("0005", -4);
        c.people("0000;", -6);
        c.people("0000,", -5);
        c.people("00000", -5);
        c.people("0000;3000", -6);
        c.people("0000;0030", 2);
        c.people("0074;2203", 2);
        Check.due("people", c.v.count(2), 4);
        Check.due("field", c.v.person(3, 0), 8);
        Check.due("facing", c.v.person(2, 1), 7);
        Check.due("brim", c.v.person(2, 2), 4);
        Check.due("knows", c.v.person(2, 3), 0);
        c.valley("33.#.......", 9);
        c.people("0120", -2);
        c.people("0020;0128", -7);
        Check.due("nothing of it comes", c.v.count(2), 0);
        c.valley("33.........", 9);
        String eight = "0000;".repeat(7) + "0000";
        c.people(eight + ";", -40);
        c.people(eight + "x", -40);
        c.people(eight + ";0000", -40);
        c.people("0000;".repeat(7) + "000", -39);
        c.people("0000;".repeat(7) + "0009;0", -39);
        c.people(eight, 8);
    }

    private static void peopleWithoutRoom() {
        Check c = new Check();
        c.people("0000;0100;0200;1000;1100", 5);
        c.people("0000;0000;0000;0000", -16);
        c.people("0000;0000;0000;", -16);
        c.people("0000;0000;0000;x", -16);
        Check.due("none came", c.v.count(2), 5);
        c.people("0000;0000;0000", 3);
        c.people("0000", -1);
        c.people("x", -1);
        c.people("", 0);
        Check.due("eight", c.v.count(2), 8);
    }

    private static void things() {
        Check c = new Check();
        c.valley("34....#.......", 12);
        c.things("", 0);
        c.things("3", -1);
        c.things("04", -2);
        c.things("0", -2);
        c.things("00;", -4);
        c.things("00x", -3);
        c.things("00;23;10", 3);
        Check.due("a thing on a rock", c.v.thing(2, 0), 4);
        Check.due("a thing", c.v.thing(1, 0), 11);
        c.things("00;00;00;00;00;00", -16);
        c.things("00;00;00;00;00", 5);
        c.things("00", -1);
        Check.due("things", c.v.count(3), 8);
        Check d = new Check();
        d.things("00;".repeat(8), -24);
        d.things("00;".repeat(7) + "00x", -24);
        d.things("00;".repeat(7) + "03;00", -23);
        d.things("00;".repeat(7) + "00", 8);
    }

    private static void light() {
        Check c = new Check();
        c.light("", -1);
        c.light("x", -1);
        c.light("12x", -3);
        c.light("0".repeat(21), -21);
        c.light("0".repeat(20) + "x", -21);
        c.light("0".repeat(19) + "xx", -20);
        Check.due("light stays", c.v.count(5), 9);
        c.light("0123456789012345678" + "4", 20);
        c.v.hours(19);
        Check.due("light of hour 19", c.v.count(5), 4);
        c.v.hours(3);
        Check.due("light of hour 22", c.v.count(5), 2);
        c.light("57", 2);
        Check.due("light of hour 22 of two", c.v.count(5), 5);
        c.v.hours(1);
        Check.due("light of hour 23 of two", c.v.count(5), 7);
    }

    private static void person() {
        Check c = Check.made("33....#....", "0023;2000;1264", "02;22;20");
        long[][] want = {{0, 2, 3, 0, 6, 1}, {6, 0, 0, 0, 9, 6}, {5, 6, 4, 0, 5, 0}};
        for (int i = 0; i < 3; i++) {
            for (int what = 0; what < 6; what++) {
                Check.due("person(" + i + ", " + what + ")", c.v.person(i, what), want[i][what]);
            }
        }
        c.v.hours(1);
        Check.due("knows", c.v.person(1, 3), 6);
        Check.throwsNoSuch("person(3, 0)", () -> c.v.person(3, 0));
        Check.throwsNoSuch("person(-1, 0)", () -> c.v.person(-1, 0));
        Check.throwsNoSuch("person(0, 6)", () -> c.v.person(0, 6));
        Check.throwsNoSuch("person(0, -1)", () -> c.v.person(0, -1));
        Check.throwsNoSuch("person(min, min)", () -> c.v.person(Integer.MIN_VALUE, Integer.MIN_VALUE));
    }

    private static void thing() {
        Check c = Check.made("33....#....", "0023;2000;1264", "02;22;20");
        Check.due("field", c.v.thing(1, 0), 8);
        Check.due("nobody knows", c.v.thing(1, 1), 0);
        Check.due("seen by", c.v.thing(1, 2), 2);
        Check.due("seen by", c.v.thing(0, 2), 1);
        c.v.hours(1);
        Check.due("known by", c.v.thing(0, 1), 1);
        Check.due("known by", c.v.thing(2, 1), 2);
        Check.throwsNoSuch("thing(3, 0)", () -> c.v.thing(3, 0));
        Check.throwsNoSuch("thing(-1, 0)", () -> c.v.thing(-1, 0));
        Check.throwsNoSuch("thing(0, 3)", () -> c.v.thing(0, 3));
        Check.throwsNoSuch("thing(0, -1)", () -> c.v.thing(0, -1));
    }

    private static void sheet() {
        Check c = Check.made("33.........", "0001;0102;0203;1004", "");
        Check.due("another kind first", c.v.sheet(4, -1, 0, 0), -1);
        Check.due("another kind", c.v.sheet(-1, 2, 0, 0), -1);
        Check.due("n above 8", c.v.sheet(2, 9, 0, 0), -1);
        Check.due("n above 8, missing", c.v.sheet(3, 9, 0, 0), -1);
        Check.due("n below 0", c.v.sheet(2, -1, 0, 0), -2);
        brims(c, 1, 2, 3, 4);
        Check.due("ints", c.v.sheet(2, 4, 1, 1), 10);
        brims(c, 1, 2, 3, 4);
        Check.due("those behind", c.v.sheet(2, 2, 3, -1), 5);
        brims(c, 3, 2, 0, 0);
        Check.due("put to 0 .. 4", c.v.sheet(2, 4, -1, 3), 10);
        brims(c, 0, 2, 4, 4);
        Check.due("bytes with their sign", c.v.sheet(0, 4, 254, 1), 1);
        brims(c, 0, 0, 0, 1);
        Check.due("shorts with their sign", c.v.sheet(1, 4, 65534, 2), 6);
        brims(c, 0, 0, 2, 4);
        Check.due("shorts above bytes", c.v.sheet(1, 1, 254, 0), 4);
        Check.due("ints above shorts", c.v.sheet(2, 1, 65534, 0), 4);
        Check.due("bytes, lowest bits", c.v.sheet(0, 1, 258, 0), 2);
        Check.due("around", c.v.sheet(2, 2, Integer.MAX_VALUE, 2), 4);
        brims(c, 4, 0, 0, 0);
        Check.due("more than there are", c.v.sheet(2, 8, 2, 0), 8);
        Check.due("an empty sheet", c.v.sheet(2, 0, 2, 0), 0);
        brims(c, 0, 0, 0, 0);
        c.v.sheet(2, 4, 1, 0);
        Check.due("missing", c.v.sheet(3, -5, 0, 0), -3);
        brims(c, 0, 0, 0, 0);
        Check.due("a sheet can't be undone", c.v.undo(), -1);
        Check.due("nor tells a ROW", c.v.count(11), 0);
    }

    private static void brims(Check c, int... want) {
        for (int i = 0; i < want.length; i++) {
            Check.due("brim of " + i, c.v.person(i, 2), want[i]);
        }
    }

    private static void count() {
        Check c = Check.made("34.#..........", "0000;2024", "01;22");
        c.light("45", 2);
        c.v.hours(1);
        c.v.heard(0, 0);
        c.v.sign(0);
        long[] want = {3, 4, 2, 2, 1, 5, 0, 1, 0, 1, 1, 2, 4};
        want[6] = Integer.bitCount(c.v.person(0, 3)) + Integer.bitCount(c.v.person(1, 3));
        want[8] = Long.bitCount(c.v.sees(0) | c.v.sees(1));
        for (int what = 0; what < want.length; what++) {
            Check.due("count(" + what + ")", c.v.count(what), want[what]);
        }
        Check.due("count(-1)", c.v.count(-1), -100);
        Check.due("count(13)", c.v.count(13), -100);
    }

    private static void row() {
        Check c = new Check();
        Check.throwsNoSuch("row(0) at first", () -> c.v.row(0));
        c.v.hidden();
        c.row("hidden", 9, 0);
        Check.throwsNoSuch("row(-1)", () -> c.v.row(-1));
        c.v.hours(61);
        c.v.widest();
        c.v.asks();
        c.v.valley();
        c.row("stays with refused calls", 9, 0);
        c.v.turned();
        c.row("an empty one");
    }
}
