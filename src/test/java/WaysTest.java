/** Promises 34 and 35: ways round by the back. */
public final class WaysTest {
    public static void main(String[] args) {
        back();
        backLeastRow();
        backRefused();
        open();
        longest();
        Check.close("WaysTest");
    }

    private static void back() {
        Check c = Check.made("35" + "....." + "....." + ".....", "1004", "");
        Check.due("nobody looks", c.v.back(5, 9), 4);
        c.row("nobody looks", 5, 1, 2, 3, 9);
        c.v.faces(0, 2);
        // FIELDS 5 to 9 are SEEN, and at the far right 3, 4, 13 and 14; both ends do not count
        Check.due("along the top", c.v.back(5, 8), 3);
        c.row("along the top", 5, 1, 2, 8);
        Check.due("no farther", c.v.back(5, 9), -2);
        Check.due("across the look", c.v.back(2, 12), -2);
        c.row("stays", 5, 1, 2, 8);
        Check.due("from it", c.v.back(7, 12), 1);
        c.row("from it", 7, 12);
        Check.due("nowhere to go", c.v.back(7, 7), 0);
        c.row("nowhere to go", 7);
    }

    private static void backLeastRow() {
        Check c = Check.made("33.........", "", "");
        Check.due("two ways", c.v.back(3, 5), 2);
        c.row("the least", 3, 1, 5);
        Check.due("across", c.v.back(8, 0), 2);
        c.row("across", 8, 4, 0);
        Check d = Check.made("33....#....", "", "");
        Check.due("round the rock", d.v.back(8, 0), 3);
        d.row("round the rock", 8, 5, 1, 0);
    }

    private static void backRefused() {
        Check c = Check.made("33.#.##....", "", "");
        Check.due("shut in", c.v.back(0, 8), -2);
        Check.due("from a rock", c.v.back(1, 8), -2);
        Check.due("to a rock", c.v.back(8, 1), -2);
        Check.due("a rock to itself", c.v.back(1, 1), -2);
        Check.due("no such FIELD", c.v.back(9, 0), -1);
        Check.due("no such FIELD", c.v.back(0, 9), -1);
        Check.due("no such FIELD", c.v.back(-1, 1), -1);
        Check.due("no such FIELD", c.v.back(1, -1), -1);
        Check.due("open: shut in", c.v.open(0, 8), -2);
        Check.due("open: from a rock", c.v.open(1, 8), -2);
        Check.due("open: to a rock", c.v.open(8, 1), -2);
        Check.due("open: no such FIELD", c.v.open(9, 1), -1);
        Check.due("open: no such FIELD", c.v.open(1, -1), -1);
        Check.due("the ROW stays", c.v.count(11), 0);
    }

    private static void open() {
        Check c = Check.made("35" + "....." + "....." + ".....", "1024", "");
        c.rule("2", 0);
        // SEEN: 5, 6, 7
        Check.due("the least row", c.v.open(5, 9), 4);
        c.row("5 1 2 3 9", 1);
        Check.due("across", c.v.open(0, 12), 2);
        c.row("0 6 12", 1);
        Check.due("none", c.v.open(7, 7), 0);
        c.row("none", 1);
        Check.due("none", c.v.open(0, 0), 0);
        c.row("none", 0);
        Check.due("both ends", c.v.open(5, 7), 2);
        c.row("5 1 7", 2);
    }

    private static void longest() {
        // a way to and fro through all of the valley
        Check c = Check.made("77" + "......." + "######." + "......." + ".######" + "......." + "######." + ".......", "", "");
        Check.due("to and fro", c.v.back(0, 42), 24);
        Check.due("numbers of the ROW", c.v.count(11), 25);
        Check.due("its end", c.v.row(24), 42);
        Check.due("to and fro", c.v.open(42, 0), 24);
        c.row("to and fro", 0);
    }
}
