/** Promises 12 to 18: each sentence that names a boundary, with a test of its own. */
public final class EdgesOfActsTest {
    private static final int LEAST = Integer.MIN_VALUE;
    private static final int MOST = Integer.MAX_VALUE;
    private static final String SMALL = "33.........";

    public static void main(String[] args) {
        hours();
        faces();
        steps();
        trims();
        puts();
        day();
        daySigns();
        undo();
        undoEach();
        undoForgets();
        Check.close("EdgesOfActsTest");
    }

    private static void hours() {
        Check.sentence(12, "n HOURS (0 .. 60)", () -> {
            Check c = Check.made(SMALL, "0000", "00;22");
            Check.due("hours(0)", c.v.hours(0), 0);
            c.row("hours(0)", 0, 0);
            Check.due("HOUR", c.v.count(4), 0);
            Check.due("hours(60)", c.v.hours(60), 2);
            c.row("hours(60)", 2, 3);
            Check.due("HOUR", c.v.count(4), 60);
            Check.due("hours(0)", c.v.hours(0), 2);
            c.row("hours(0)", 0, 3);
        });
        Check.sentence(12, "how much more than ahead, THINGS that somebody KNOWS then (bits)", () -> {
            Check full = Check.made(SMALL, "1100;1100;1100;1100;1100;1100;1100;1100", "00;01;02;10;12;20;21;22");
            Check.due("all", full.v.hours(1), 64);
            full.row("all", 64, 255);
            Check.due("no more", full.v.hours(60), 64);
            full.row("no more", 0, 255);
            Check nobody = Check.made(SMALL, "", "00");
            Check.due("nobody", nobody.v.hours(60), 0);
            nobody.row("nobody", 0, 0);
        });
        Check.sentence(12, "Refused: another n", () -> {
            Check c = Check.made(SMALL, "0000", "00");
            Check.each("hours", c.v::hours, -1, 61, -1, LEAST, MOST);
            Check.due("HOUR", c.v.count(4), 0);
            Check.due("nothing to undo", c.v.count(10), 0);
            Check.due("no ROW", c.v.count(11), 0);
        });
    }

    private static void faces() {
        Check.sentence(13, "FACING becomes v (0 .. 7)", () -> {
            Check c = Check.made(SMALL, "0030;0030", "");
            for (int v = 0; v < 8; v++) {
                c.v.faces(1, v);
                c.people(1, 3, v);
            }
        });
        Check.sentence(13, "how many eighths that was (0 .. 4, the shorter way round)", () -> {
            Check c = Check.made(SMALL, "0000", "");
            int[] off = {0, 1, 2, 3, 4, 3, 2, 1};
            for (int from = 0; from < 8; from++) {
                for (int turn = 0; turn < 8; turn++) {
                    c.v.faces(0, from);
                    int to = (from + turn) % 8;
                    Check.due("from " + from + " to " + to, c.v.faces(0, to), off[turn]);
                }
            }
        });
        Check.sentence(13, "Refused: others", () -> {
            Check c = Check.made(SMALL, "0030;0030", "");
            Check.each("v", v -> c.v.faces(0, v), -1, 8, -1, LEAST, MOST);
            Check.each("person", i -> c.v.faces(i, 0), -1, 2, 8, -1, LEAST, MOST);
            c.people(1, 3, 3);
            Check.due("nothing to undo", c.v.count(10), 0);
        });
    }

    private static void steps() {
        Check.sentence(14, "One goes a step by a way (0 .. 7, as FACINGS): its FIELD", () -> {
            int[] field = {1, 2, 5, 8, 7, 6, 3, 0};
            for (int way = 0; way < 8; way++) {
                Check c = Check.made(SMALL, "1152;1100", "");
                Check.due("way " + way, c.v.steps(0, way), field[way]);
                c.people(0, field[way], 4);
                c.people(1, 5, 0);
                c.people(2, 2, 0);
            }
        });
        Check.sentence(14, "-2: there is no FIELD, or a rock", () -> {
            // from the four corners and edges nobody gets out, nor round to the other side
            String[] place = {"00", "02", "20", "22", "01", "10", "12", "21"};
            String[] shut = {"56701", "70123", "34567", "12345", "701", "567", "123", "345"};
            for (int i = 0; i < place.length; i++) {
                Check c = Check.made(SMALL, place[i] + "00", "");
                int field = c.v.person(0, 0);
                for (char way : shut[i].toCharArray()) {
                    Check.due(place[i] + " by " + way, c.v.steps(0, way - '0'), -2);
                }
                c.people(0, field);
                Check.due("nothing to undo", c.v.count(10), 0);
            }
            Check rocks = Check.made("33####.####", "1100", "");
            for (int way = 0; way < 8; way++) {
                Check.due("a rock by " + way, rocks.v.steps(0, way), -2);
            }
            rocks.people(0, 4);
        });
        Check.sentence(14, "NONE: others", () -> {
            Check c = Check.made(SMALL, "1100", "");
            Check.each("way", w -> c.v.steps(0, w), -1, 8, -1, LEAST, MOST);
            Check.each("person", i -> c.v.steps(i, 0), -1, 1, 8, -1, LEAST, MOST);
            c.people(0, 4);
            Check corner = Check.made(SMALL, "0000", "");
            Check.due("NONE, though there is no FIELD either", corner.v.steps(1, 0), -1);
        });
    }

    private static void trims() {
        Check.sentence(15, "BRIM becomes v (0 .. 4): what it was", () -> {
            Check c = Check.made(SMALL, "0002;0002", "");
            int was = 2;
            for (int v : new int[] {0, 4, 4, 3, 0, 0, 1}) {
                Check.due("trims(1, " + v + ")", c.v.trims(1, v), was);
                c.people(2, 2, v);
                was = v;
            }
            Check.due("all were done", c.v.count(10), 7);
        });
        Check.sentence(15, "Refused: others", () -> {
            Check c = Check.made(SMALL, "0002;0002", "");
            Check.each("v", v -> c.v.trims(0, v), -1, 5, -1, LEAST, MOST);
            Check.each("person", i -> c.v.trims(i, 0), -1, 2, 8, -1, LEAST, MOST);
            c.people(2, 2, 2);
            Check.due("nothing to undo", c.v.count(10), 0);
        });
    }

    private static void puts() {
        Check.sentence(16, "A THING is put on a FIELD: the one where it was (PEOPLE KNOW of it as ahead)", () -> {
            Check c = Check.made("77" + ".".repeat(48) + "#", "0000", "00;00");
            c.light("0", 1);
            c.v.hours(1);
            Check.due("to the last FIELD, a rock", c.v.puts(1, 48), 0);
            Check.due("there", c.v.thing(1, 0), 48);
            Check.due("the other one is where it was", c.v.thing(0, 0), 0);
            Check.due("it KNOWS of it as ahead", c.v.thing(1, 1), 1);
            c.v.hours(1);
            Check.due("and an HOUR later", c.v.thing(1, 1), 1);
            Check.due("back", c.v.puts(1, 0), 48);
        });
        Check.sentence(16, "-2: it is there", () -> {
            Check c = Check.made(SMALL, "", "00;22");
            Check.due("puts(0, 0)", c.v.puts(0, 0), -2);
            Check.due("puts(1, 8)", c.v.puts(1, 8), -2);
            Check.due("nothing to undo", c.v.count(10), 0);
        });
        Check.sentence(16, "NONE: none such", () -> {
            Check c = Check.made(SMALL, "", "00;22");
            Check.each("field", f -> c.v.puts(0, f), -1, 9, 48, -1, LEAST, MOST);
            Check.each("thing", i -> c.v.puts(i, 0), -1, 2, 8, -1, LEAST, MOST);
            Check.due("nothing to undo", c.v.count(10), 0);
        });
    }

    private static void day() {
        Check.sentence(17, "THE TEXT tells A DAY (an empty one: nothing)", () -> {
            Check c = Check.made(SMALL, "0000", "00");
            c.v.hours(2);
            c.day("", 0);
            c.row("nothing", 0, 2);
            Check.due("what can be undone", c.v.count(10), 1);
        });
        Check.sentence(17, "they are done one by one, till one is refused", () -> {
            Check c = Check.made(SMALL, "0000", "00");
            c.day("f01g00f02", 1);
            c.row("the second", 1, 0);
            c.people(1, 1);
            c.day("g00f02", 0);
            c.row("the first", 1, 0);
            c.people(1, 1);
            c.day("f02f03g00", 2);
            c.row("the last", 1, 0);
            c.people(1, 3);
            c.day("n9n9", 2);
            c.row("none", 0, 18);
        });
        Check.sentence(17, "(it answers below 0; a FIELD that is not there, too)", () -> {
            String[] bad = {
                "f10", "f90", "f08", "f09", "g10", "g08", "g09", "g00", "g02", "b10", "b90", "b05", "b09",
                "p100", "p900", "p000", "p030", "p090", "p003", "p009", "p033", "p099"
            };
            for (String s : bad) {
                Check c = Check.made("33.#.......", "0000", "00");
                c.day("n1" + s + "n1", 1);
                c.row(s, 1, 1);
                Check.due("HOUR", c.v.count(4), 1);
            }
            String[] good = {"n0", "n9", "f00", "f07", "g03", "g04", "b00", "b04", "p022", "p001", "p020", "p002"};
            for (String s : good) {
                Check c = Check.made("33.#.......", "0000", "00");
                c.day(s, 1);
                c.row(s, 0, s.equals("n9") ? 9 : 0);
            }
            // 3 ROWS and 4 COLUMNS: 2 3 is the last FIELD, 3 2 is none
            Check wide = Check.made("34............", "", "00");
            wide.day("p023", 1);
            Check.due("the last FIELD", wide.v.thing(0, 0), 11);
            wide.day("p032", 0);
            wide.day("p004", 0);
            Check.due("where it was", wide.v.thing(0, 0), 11);
        });
        Check.sentence(17, "how many were done; the ROW: 1 if one was refused, else 0; HOUR then", () -> {
            Check c = Check.made(SMALL, "0000", "00");
            c.day("n1".repeat(30), 30);
            c.row("60 signs", 0, 30);
            c.day("n1".repeat(28) + "g00", 28);
            c.row("59 signs", 1, 58);
            c.day("f00".repeat(20), 20);
            c.row("60 signs", 0, 58);
            c.day("p001p000".repeat(7) + "p022", 15);
            c.row("60 signs", 0, 58);
            Check.due("THING", c.v.thing(0, 0), 8);
        });
    }

    private static void daySigns() {
        Check.sentence(17, "-1 - p: the sign at p can't stand there", () -> {
            Check c = Check.made(SMALL, "0000", "00");
            for (String s : new String[] {"x", "0", "N", " ", "h", ";", "" + (char) 0, "\u00ee"}) {
                c.day(s, -1);
                c.day("n1" + s, -3);
                c.day("f01" + s, -4);
                c.day("p001" + s, -5);
            }
            for (String s : new String[] {"x", "n", "/", ":", "-", " ", "\u00b1"}) {
                c.day("n" + s, -2);
                c.day("f" + s + "1", -2);
                c.day("f0" + s, -3);
                c.day("g" + s + "1", -2);
                c.day("g0" + s, -3);
                c.day("b" + s + "1", -2);
                c.day("b0" + s, -3);
                c.day("p" + s + "11", -2);
                c.day("p0" + s + "1", -3);
                c.day("p00" + s, -4);
            }
        });
        Check.sentence(17, "its end, if it ends too early", () -> {
            Check c = Check.made(SMALL, "0000", "00");
            for (String s : new String[] {"n", "f", "f0", "g", "g0", "b", "b0", "p", "p0", "p00", "n1f0", "n1p00"}) {
                c.day(s, -1 - s.length());
            }
            c.day("n1".repeat(29) + "f0", -61);
        });
        Check.sentence(17, "60, if it has more and the first 60 could go on or end", () -> {
            Check c = Check.made(SMALL, "0000", "00");
            c.day("n1".repeat(30) + "n1", -61);
            c.day("n1".repeat(30) + "n", -61);
            c.day("n1".repeat(30) + "x", -61);
            c.day("n1".repeat(40), -61);
            c.day("n1".repeat(29) + "f00", -61);
            c.day("n1".repeat(29) + "f0x", -61);
            c.day("n1".repeat(29) + "p001", -61);
            // if they could not, the sign that can't stand there
            c.day("n1".repeat(29) + "nx1", -60);
            c.day("x" + "n1".repeat(35), -1);
        });
        Check.sentence(17, "nothing is done then", () -> {
            Check c = Check.made(SMALL, "0000", "00");
            c.v.hidden();
            c.day("n1f01g03b01p022x", -16);
            c.day("n1f01g03b01p02", -15);
            c.day("n1".repeat(31), -61);
            Check.due("HOUR", c.v.count(4), 0);
            c.people(0, 0);
            c.people(1, 0);
            c.people(2, 0);
            Check.due("THING", c.v.thing(0, 0), 0);
            Check.due("nothing to undo", c.v.count(10), 0);
            c.row("hidden", 0, 0);
        });
    }

    private static void undo() {
        Check.sentence(18, "(of 15 that are kept, the latest ones; such as were done", () -> {
            Check c = Check.made(SMALL, "0000", "00");
            for (int i = 1; i <= 16; i++) {
                c.v.hours(1);
                c.v.hours(61);
                c.v.faces(0, 8);
                c.v.steps(0, 0);
                c.v.trims(0, 5);
                c.v.puts(0, 0);
                Check.due("what can be undone", c.v.count(10), Math.min(15, i));
            }
            for (int left = 14; left >= 0; left--) {
                Check.due("left", c.v.undo(), left);
                Check.due("HOUR", c.v.count(4), left + 1);
            }
            Check.due("not the sixteenth", c.v.undo(), -1);
            Check.due("HOUR", c.v.count(4), 1);
            // the same once more, from the middle of the row on
            for (int i = 0; i < 40; i++) {
                c.v.hours(1);
            }
            for (int left = 14; left >= 0; left--) {
                Check.due("left", c.v.undo(), left);
            }
            Check.due("HOUR", c.v.count(4), 26);
            Check.due("none", c.v.undo(), -1);
        });
        Check.sentence(18, "day() of which one act was done, as one)", () -> {
            Check c = Check.made(SMALL, "0000", "00");
            c.v.faces(0, 5);
            c.day("n1f01g03b01p022", 5);
            c.day("g09", 0);
            c.day("", 0);
            c.day("x", -1);
            c.day("f02g09", 1);
            Check.due("three", c.v.count(10), 3);
            Check.due("the last day", c.v.undo(), 2);
            c.people(1, 1);
            Check.due("the first day", c.v.undo(), 1);
            c.people(1, 5);
            Check.due("faces", c.v.undo(), 0);
            c.people(1, 0);
        });
        String words = "(FIELDS, FACINGS, BRIMS, what PEOPLE KNOW, where THINGS are, HOUR are as ahead of it)";
        Check.sentence(18, words, () -> {
            Check c = Check.made(SMALL, "0000;2244", "00;22");
            c.day("n1f03g03b02p022g17f11b11p100n1", 10);
            Check.due("undo", c.v.undo(), 0);
            c.people(0, 0, 8);
            c.people(1, 0, 4);
            c.people(2, 0, 4);
            c.people(3, 0, 0);
            Check.due("THING 0", c.v.thing(0, 0), 0);
            Check.due("THING 1", c.v.thing(1, 0), 8);
            Check.due("HOUR", c.v.count(4), 0);
        });
        Check.sentence(18, "Refused: none", () -> {
            Check c = Check.made(SMALL, "0000", "00");
            Check.due("none yet", c.v.undo(), -1);
            c.v.faces(0, 1);
            Check.due("one", c.v.undo(), 0);
            Check.due("none left", c.v.undo(), -1);
            c.people(1, 0);
        });
    }

    /** One act of each kind, and what undo() has to bring back of it. */
    private static void undoEach() {
        Check.sentence(18, "The latest hours(), faces(), steps(), trims(), puts() or day()", () -> {
            Check c = Check.made(SMALL, "1131;0042", "00;22");
            String[] stages = new String[9];
            stages[0] = seen(c);
            c.v.trims(0, 3);
            stages[1] = seen(c);
            c.v.steps(1, 2);
            stages[2] = seen(c);
            c.v.puts(1, 3);
            stages[3] = seen(c);
            c.v.faces(1, 7);
            stages[4] = seen(c);
            c.v.hours(2);
            stages[5] = seen(c);
            c.v.steps(0, 0);
            stages[6] = seen(c);
            Twin.read(c.v, "f12b00", BonnetValley::day);
            stages[7] = seen(c);
            c.v.trims(1, 4);
            for (int left = 7; left >= 0; left--) {
                Check.due("left", c.v.undo(), left);
                Check.due(seen(c) + " is as it was: " + stages[left], seen(c).equals(stages[left]), true);
            }
            Check.due("none left", c.v.undo(), -1);
        });
        Check.sentence(18, "how many are left that can be", () -> {
            Check c = Check.made(SMALL, "1100", "00");
            // each alone, behind one that was refused
            c.v.steps(0, 9);
            c.v.steps(0, 3);
            Check.due("steps", c.v.undo(), 0);
            c.people(0, 4);
            c.v.trims(0, 9);
            c.v.trims(0, 2);
            Check.due("trims", c.v.undo(), 0);
            c.people(2, 0);
            c.v.faces(0, 9);
            c.v.faces(0, 5);
            Check.due("faces", c.v.undo(), 0);
            c.people(1, 0);
            c.v.puts(0, 9);
            c.v.puts(0, 8);
            Check.due("puts", c.v.undo(), 0);
            Check.due("THING", c.v.thing(0, 0), 0);
            c.v.hours(61);
            c.v.hours(60);
            Check.due("hours", c.v.undo(), 0);
            Check.due("HOUR", c.v.count(4), 0);
            c.people(3, 0);
            // what was undone makes room for what comes then
            c.v.hours(1);
            c.v.hours(1);
            c.v.undo();
            c.v.faces(0, 1);
            Check.due("of two", c.v.undo(), 1);
            Check.due("HOUR", c.v.count(4), 1);
            Check.due("of one", c.v.undo(), 0);
            Check.due("HOUR", c.v.count(4), 0);
        });
    }

    /** All that undo() brings back. */
    private static String seen(Check c) {
        StringBuilder s = new StringBuilder("HOUR " + c.v.count(4));
        for (int i = 0; i < c.v.count(2); i++) {
            s.append("; ").append(i).append(':');
            for (int what = 0; what <= 3; what++) {
                s.append(' ').append(c.v.person(i, what));
            }
        }
        for (int i = 0; i < c.v.count(3); i++) {
            s.append("; THING ").append(c.v.thing(i, 0));
        }
        return s.toString();
    }

    private static void undoForgets() {
        Check.sentence(18, "(valley(), people(), things() and again() forget them, if they are not refused", () -> {
            Check c = Check.made(SMALL, "0000", "00");
            c.v.faces(0, 1);
            c.valley("33", -3);
            c.people("3", -1);
            c.things("3", -1);
            Check.due("again(0)", c.v.again(0), false);
            Check.due("again(3)", c.v.again(3), false);
            Check.due("refused ones do not", c.v.count(10), 1);
            c.people("0000", 1);
            Check.due("people()", c.v.count(10), 0);
            c.v.faces(0, 2);
            c.things("00", 1);
            Check.due("things()", c.v.count(10), 0);
            c.v.keep(0);
            c.v.faces(0, 3);
            Check.due("keep() does not", c.v.count(10), 1);
            c.v.again(0);
            Check.due("again()", c.v.count(10), 0);
            Check.due("undo", c.v.undo(), -1);
            c.v.faces(0, 4);
            c.valley(SMALL, 9);
            Check.due("valley()", c.v.count(10), 0);
            Check.due("undo", c.v.undo(), -1);
        });
        Check.sentence(18, "those that read an empty text do not.)", () -> {
            Check c = Check.made(SMALL, "0000", "00");
            c.v.faces(0, 1);
            c.people("", 0);
            c.things("", 0);
            c.valley("", -1);
            Check.due("one", c.v.count(10), 1);
            Check.due("undo", c.v.undo(), 0);
            c.people(1, 0);
        });
    }
}
