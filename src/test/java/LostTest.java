/** Promises 36 to 39: where a lost thing may be, whom to ask next. */
public final class LostTest {
    public static void main(String[] args) {
        heard();
        heardThen();
        lost();
        asks();
        Check.close("LostTest");
    }

    private static void heard() {
        Check c = Check.made("33.........", "0024", "");
        Check.due("another is", c.v.heard(0, 2), -1);
        Check.due("another is", c.v.heard(0, -1), -1);
        Check.due("none such", c.v.heard(1, 1), -1);
        Check.due("none such", c.v.heard(-1, 1), -1);
        for (int i = 1; i <= 10; i++) {
            Check.due("heard", c.v.heard(0, 1), i);
        }
        Check.due("ten are all", c.v.heard(0, 0), -1);
        Check.due("which changes nothing", c.v.lost(), 7);
        Check.due("count(9)", c.v.count(9), 10);
        Check.due("forget", c.v.forget(), 10);
        Check.due("forget", c.v.forget(), 0);
        Check.due("anywhere", c.v.lost(), 511);
        Check.due("heard", c.v.heard(0, 0), 1);
        Check.due("not there", c.v.lost(), 504);
    }

    private static void heardThen() {
        // what was heard is what was SEEN at that time
        Check c = Check.made("33.........", "0024", "");
        c.v.heard(0, 1);
        c.v.faces(0, 4);
        Check.due("as it was heard", c.v.lost(), 7);
        c.v.heard(0, 0);
        Check.due("not there now", c.v.lost(), 6);
        c.people("2200", 1);
        c.things("00", 1);
        Check.due("PEOPLE and THINGS let it be", c.v.lost(), 6);
        c.v.undo();
        Check.due("count(9)", c.v.count(9), 2);
    }

    private static void lost() {
        Check c = Check.made("33.#.......", "0024;2200", "");
        Check.due("anywhere but on the rock", c.v.lost(), 509);
        c.row("anywhere", 8);
        c.v.heard(0, 1);
        Check.due("its own FIELD alone", c.v.lost(), 1);
        c.row("its own FIELD", 1);
        c.v.heard(0, 0);
        Check.due("nowhere", c.v.lost(), 0);
        c.row("nowhere", 0);
        Check.due("nobody to ask then", c.v.asks(), -2);
        c.row("stays", 0);
    }

    private static void asks() {
        Check c = Check.made("33.........", "0024;1100;1123;1123", "");
        // 0 SEES 3 of 9, 1 all of them, 2 and 3 SEE 4: the right COLUMN and their own FIELD
        Check.due("of equal ones the first", c.v.asks(), 2);
        c.row("of equal ones the first", 5);
        c.v.heard(0, 1);
        c.v.faces(0, 4);
        // of FIELDS 0, 1, 2 it SEES its own now
        Check.due("0 anew", c.v.asks(), 0);
        c.row("0 anew", 2);
        Check d = Check.made("33.........", "", "");
        Check.due("nobody", d.v.asks(), -2);
    }
}
