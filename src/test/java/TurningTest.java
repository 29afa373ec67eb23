/** Promises 30 to 33: whom to turn. */
public final class TurningTest {
    public static void main(String[] args) {
        eighths();
        turned();
        turnedLeastRow();
        turnedEight();
        best();
        bears();
        Check.close("TurningTest");
    }

    private static void eighths() {
        Check c = Check.made("33.........", "1104", "");
        // a brim of 4 lets one see ahead alone
        int[] fields = {0, 1, 2, 3, 5, 6, 7, 8};
        int[] facing = {7, 0, 1, 6, 2, 5, 4, 3};
        int[] turns = {1, 0, 1, 2, 2, 3, 4, 3};
        for (int i = 0; i < fields.length; i++) {
            Check.due("eighths(0, " + fields[i] + ")", c.v.eighths(0, fields[i]), turns[i]);
            c.row("eighths(0, " + fields[i] + ")", facing[i]);
        }
        Check.due("its own FIELD", c.v.eighths(0, 4), 0);
        c.row("its own FIELD", 0);
        c.v.trims(0, 3);
        Check.due("one less", c.v.eighths(0, 7), 3);
        c.row("of as few the least number", 3);
        c.v.faces(0, 4);
        Check.due("both sides", c.v.eighths(0, 1), 3);
        c.row("both sides", 1);
        Check.due("nothing changes", c.v.person(0, 1), 4);
        // REACH as it is: by f it would grow
        c.rule("f-4", 0);
        Check.due("REACH as it is", c.v.eighths(0, 1), -2);
        c.rule("", 0);
        Check.due("no such FIELD", c.v.eighths(0, 9), -1);
        Check.due("no such FIELD", c.v.eighths(0, -1), -1);
        Check.due("none such", c.v.eighths(1, 0), -1);
        Check.due("none such", c.v.eighths(-1, 0), -1);
        c.row("stays", 1);
        Check d = Check.made("33.#.......", "0000", "");
        Check.due("behind a rock", d.v.eighths(0, 2), -2);
    }

    private static void turned() {
        Check c = Check.made("33.........", "0004;2244", "02;20");
        // 0 has to look right or down, 1 up or left, for one THING each
        Check.due("both", c.v.turned(), 2);
        c.row("both", 2, 6);
        c.v.faces(0, 4);
        Check.due("one", c.v.turned(), 1);
        c.row("one", 4, 0);
        c.v.faces(1, 0);
        Check.due("none", c.v.turned(), 0);
        c.row("none", 4, 0);
        c.rule("1", 0);
        Check.due("too far", c.v.turned(), -2);
        c.row("stays", 4, 0);
        Check d = Check.made("33.........", "", "02");
        Check.due("nobody", d.v.turned(), -2);
        Check e = Check.made("33.........", "0034;0014", "");
        Check.due("no THINGS", e.v.turned(), 0);
        e.row("no THINGS", 3, 1);
        Check f = Check.made("33.........", "", "");
        Check.due("neither", f.v.turned(), 0);
        f.row("neither");
    }

    private static void turnedLeastRow() {
        // either of two could be turned: the row is least by the first number that differs
        Check c = Check.made("33.........", "1104;1104", "12");
        Check.due("one of two", c.v.turned(), 1);
        c.row("one of two", 0, 2);
        Check d = Check.made("33.........", "1134;1134", "12");
        Check.due("one of two", d.v.turned(), 1);
        d.row("one of two", 2, 3);
        Check e = Check.made("33.........", "1174;1103", "10;21");
        // 10 is to the left, 21 below: 0 turned to 6 and 1 to 3, or 0 to 4 and 1 to 5; or 1 alone to 5
        Check.due("one alone", e.v.turned(), 1);
        e.row("one alone", 7, 5);
    }

    private static void turnedEight() {
        // eight people in a corner who look out of it, eight THINGS each by another way
        Check c = Check.made("33.........", "1104;1104;1104;1104;1104;1104;1104;1104", "00;01;02;10;12;20;21;22");
        Check.due("all but one", c.v.turned(), 7);
        c.row("all but one", 0, 1, 2, 3, 4, 5, 6, 7);
        c.v.faces(0, 7);
        Check.due("all but two", c.v.turned(), 6);
        c.row("all but two", 7, 0, 1, 2, 3, 4, 5, 6);
    }

    private static void best() {
        Check c = Check.made("33.........", "1104", "00;02;12;22;12;11");
        Check.due("to the right: two and its own", c.v.best(0), 2);
        c.row("to the right", 0b110100);
        c.v.trims(0, 3);
        Check.due("with both sides", c.v.best(0), 2);
        c.row("with both sides", 0b111110);
        c.v.trims(0, 0);
        Check.due("all round: the least", c.v.best(0), 0);
        c.row("all round", 0b111111);
        Check.due("best(1)", c.v.best(1), -1);
        Check.due("best(-1)", c.v.best(-1), -1);
        c.row("stays", 0b111111);
        c.rule("f", 0);
        Check.due("REACH as it is", c.v.best(0), 0);
        c.row("REACH as it is", 0b100000);
        Check d = Check.made("33.........", "1154", "");
        Check.due("no THINGS", d.v.best(0), 0);
        d.row("no THINGS", 0);
    }

    private static void bears() {
        Check c = Check.made("33.........", "1100", "");
        int[] fields = {0, 1, 2, 3, 5, 6, 7, 8, 4};
        int[] brim = {3, 4, 3, 2, 2, 1, 0, 1, 4};
        for (int i = 0; i < fields.length; i++) {
            Check.due("bears(0, " + fields[i] + ")", c.v.bears(0, fields[i]), brim[i]);
            c.row("bears(0, " + fields[i] + ")", 9 - brim[i]);
        }
        c.light("3", 1);
        Check.due("dim", c.v.bears(0, 1), 2);
        c.row("dim", 1);
        c.light("0", 1);
        Check.due("dark", c.v.bears(0, 1), -2);
        c.row("stays", 1);
        Check.due("its own FIELD", c.v.bears(0, 4), 4);
        c.row("REACH by it", 0);
        Check.due("no such FIELD", c.v.bears(0, 9), -1);
        Check.due("no such FIELD", c.v.bears(0, -1), -1);
        Check.due("none such", c.v.bears(1, 0), -1);
        Check.due("none such", c.v.bears(-1, 0), -1);
        Check.due("nothing changes", c.v.person(0, 2), 0);
    }
}
