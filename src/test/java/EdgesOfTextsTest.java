/** Promises 1 to 8: each sentence that names a boundary, with a test of its own. */
public final class EdgesOfTextsTest {
    private static final int LEAST = Integer.MIN_VALUE;
    private static final int MOST = Integer.MAX_VALUE;
    private static final String SMALL = "33.........";

    public static void main(String[] args) {
        newObject();
        sign();
        end();
        valley();
        valleyAnew();
        people();
        peopleFull();
        things();
        light();
        rule();
        Check.close("EdgesOfTextsTest");
    }

    private static void newObject() {
        Check.sentence(1, "A VALLEY of three ROWS and COLUMNS; no PEOPLE, no THINGS", () -> {
            Check c = new Check();
            long[] want = {3, 3, 0, 0, 0, 9, 0, 0, 0, 0, 0, 0, 0};
            for (int what = 0; what < want.length; what++) {
                Check.due("count(" + what + ")", c.v.count(what), want[what]);
            }
            Check.each("again", i -> c.v.again(i) ? 1 : 0, 0, 0, 1, 2);
            Check.due("lost", c.v.lost(), 511);
            // two objects have nothing in common
            Check d = new Check();
            d.people("0000", 1);
            d.v.sign(0);
            Check.due("of another one", c.v.count(2) + c.v.count(12), 0);
        });
    }

    private static void sign() {
        Check.sentence(2, "Four signs come behind THE TEXT, of v the highest byte first: how many it has", () -> {
            Check c = new Check();
            Check.due("the first ones", c.v.sign('9' << 24 | '8' << 16 | '7' << 8 | '6'), 4);
            Check.due("those behind", c.v.sign('5' << 24 | '4' << 16 | '3' << 8 | '2'), 8);
            Check.due("light", c.v.light(), 8);
            for (int digit = 9; digit >= 2; digit--) {
                Check.due("digit", c.v.count(5), digit);
                c.v.hours(1);
            }
            // bytes are no less signs above 127 and at 0
            Check.due("below 0", c.v.sign(LEAST), 4);
            Check.due("at it", c.v.light(), -1);
            Check.due("all bits", c.v.sign(-1), 4);
            Check.due("at it", c.v.valley(), -1);
            Check.due("the lowest byte", c.v.sign('1' << 24 | '1' << 16 | '1' << 8 | 255), 4);
            Check.due("at it", c.v.light(), -4);
        });
        Check.sentence(2, "Refused: there would be more than 80", () -> {
            Check c = new Check();
            for (int i = 1; i <= 20; i++) {
                Check.due("up to 80", c.v.sign('5'), 4 * i);
            }
            Check.each("sign", c.v::sign, -1, 0, -1, LEAST, MOST);
            Check.due("80 are left", c.v.count(12), 80);
            for (int n = 79; n >= 77; n--) {
                c.v.end(n);
                Check.due("behind " + n, c.v.sign('5'), -1);
                Check.due("signs", c.v.count(12), n);
            }
            c.v.end(76);
            Check.due("behind 76", c.v.sign('5'), 80);
        });
    }

    private static void end() {
        Check.sentence(3, "THE TEXT has its first n signs alone: true", () -> {
            Check c = new Check();
            Check.due("none of none", c.v.end(0), true);
            c.text("12345678");
            Check.due("all", c.v.end(8), true);
            Check.due("signs", c.v.count(12), 8);
            Check.due("three", c.v.end(3), true);
            Check.due("signs", c.v.count(12), 3);
            c.v.sign('9' << 24 | '9' << 16 | '9' << 8 | '9');
            Check.due("behind these", c.v.light(), 7);
            for (int want : new int[] {1, 2, 3, 9, 9, 9, 9, 1}) {
                Check.due("LIGHT", c.v.count(5), want);
                c.v.hours(1);
            }
            c.text("5");
            Check.due("none of one", c.v.end(0), true);
            Check.due("signs", c.v.count(12), 0);
            Check.due("an empty text", c.v.light(), -1);
        });
        Check.sentence(3, "false if it has not so many, or n is below 0", () -> {
            Check c = new Check();
            Check.each("end", n -> c.v.end(n) ? 1 : 0, 0, 1, -1, LEAST, MOST);
            c.text("567");
            Check.each("end", n -> c.v.end(n) ? 1 : 0, 0, 4, 80, -1, LEAST, MOST);
            Check.due("it stays", c.v.light(), 3);
            c.text("5".repeat(80));
            Check.each("end", n -> c.v.end(n) ? 1 : 0, 0, 81, -1);
            Check.due("it stays", c.v.count(12), 80);
        });
    }

    private static void valley() {
        Check.sentence(4, "THE TEXT is THE VALLEY anew: how many FIELDS", () -> {
            Check c = new Check();
            c.valley("33.........", 9);
            c.valley("37" + ".".repeat(21), 21);
            c.valley("73" + "#".repeat(21), 21);
            c.valley("77" + ".".repeat(49), 49);
            Check.due("seers of the last", c.v.seers(48), 0);
            Check.due("seers of one more", c.v.seers(49), -1);
        });
        Check.sentence(4, "-1 - p: the sign at p can't stand there", () -> {
            Check c = new Check();
            for (String s : new String[] {"0", "1", "2", "8", "9", "x", ".", "#", "-", " ", "" + (char) 0, "\u00b3"}) {
                c.valley(s + "3.........", -1);
                c.valley("3" + s + ".........", -2);
            }
            for (int p = 2; p < 11; p++) {
                for (String s : new String[] {"3", "x", " ", "\u00ff", "" + (char) 0}) {
                    c.valley(SMALL.substring(0, p) + s + SMALL.substring(p + 1), -1 - p);
                }
            }
            Check.due("it stays", c.v.count(0) * c.v.count(1), 9);
        });
        Check.sentence(4, "its end, if it ends too early", () -> {
            Check c = new Check();
            for (int n = 0; n < 11; n++) {
                c.valley(SMALL.substring(0, n), -1 - n);
            }
            String wide = "77" + ".".repeat(49);
            c.valley(wide.substring(0, 50), -51);
            Check.due("it stays", c.v.count(0), 3);
        });
        Check.sentence(4, "one too many: at it", () -> {
            Check c = new Check();
            for (String more : new String[] {".", "#", "x", "3", "..", "x" + ".".repeat(60)}) {
                c.valley(SMALL + more, -12);
            }
            c.valley("77" + ".".repeat(50), -52);
            c.valley("77" + ".".repeat(78), -52);
            Check.due("it stays", c.v.count(0), 3);
        });
    }

    private static void valleyAnew() {
        String words = "there are no PEOPLE, no THINGS, HOUR is 0, nothing can be undone, nothing is kept, nothing was heard";
        Check.sentence(4, words, () -> {
            Check c = new Check();
            Check.due("the same VALLEY", Twin.read(c.v, SMALL, BonnetValley::valley), 9);
            c.people("0024;2200", 2);
            c.things("00;22", 2);
            c.v.hours(5);
            c.v.heard(0, 1);
            for (int i = 0; i < 3; i++) {
                c.v.keep(i);
            }
            c.valley(SMALL, 9);
            Check.due("PEOPLE", c.v.count(2), 0);
            Check.due("THINGS", c.v.count(3), 0);
            Check.due("HOUR", c.v.count(4), 0);
            Check.due("what can be undone", c.v.count(10), 0);
            Check.due("undo", c.v.undo(), -1);
            Check.each("again", i -> c.v.again(i) ? 1 : 0, 0, 0, 1, 2);
            Check.due("what was heard", c.v.count(9), 0);
            Check.due("lost", c.v.lost(), 511);
            Check.due("forget", c.v.forget(), 0);
            c.people("0000;".repeat(7) + "0000", 8);
            c.things("00;".repeat(7) + "00", 8);
            c.people(3, 0, 0, 0, 0, 0, 0, 0, 0);
        });
    }

    private static void people() {
        Check.sentence(5, "THE TEXT tells of PEOPLE (an empty one: nothing): how many LINES", () -> {
            Check c = new Check();
            c.people("", 0);
            Check.due("nobody", c.v.count(2), 0);
            c.people("0000", 1);
            c.people("0112;2274", 2);
            c.people("", 0);
            c.people(0, 0, 1, 8);
            c.people(1, 0, 1, 7);
            c.people(2, 0, 2, 4);
        });
        Check.sentence(5, "its end, if it ends too early", () -> {
            Check c = new Check();
            c.people("0", -2);
            c.people("00", -3);
            c.people("000", -4);
            c.people("0000;", -6);
            c.people("0000;0", -7);
            c.people("0000;00", -8);
            c.people("0000;000", -9);
            c.people("0000;0000;", -11);
            Check.due("nobody", c.v.count(2), 0);
        });
        Check.sentence(5, "a ROW or COLUMN that is not there, a FACING above 7, a BRIM above 4: at its digit", () -> {
            Check c = new Check();
            c.valley("35" + ".".repeat(15), 15);
            c.people("2400", 1);
            c.people("3000", -1);
            c.people("9000", -1);
            c.people("0500", -2);
            c.people("0900", -2);
            c.people("0070", 1);
            c.people("0080", -3);
            c.people("0090", -3);
            c.people("0004", 1);
            c.people("0005", -4);
            c.people("0009", -4);
            c.people("0000;3000", -6);
            c.people("0000;0500", -7);
            c.people("0000;0080", -8);
            c.people("0000;0005", -9);
            // the first of several
            c.people("3585", -1);
            c.people("0585", -2);
            c.people("0085", -3);
            Check.due("three", c.v.count(2), 3);
        });
        Check.sentence(5, "-1 - p: the sign at p can't stand there", () -> {
            Check c = new Check();
            for (String s : new String[] {";", "x", " ", "/", ":", "" + (char) 0, "\u00b0"}) {
                c.people(s + "000", -1);
                c.people("0" + s + "00", -2);
                c.people("00" + s + "0", -3);
                c.people("000" + s, -4);
                c.people("0000;" + s, -6);
            }
            for (String s : new String[] {"0", "x", ",", ":", " "}) {
                c.people("0000" + s, -5);
                c.people("0000" + s + "0000", -5);
            }
            Check.due("nobody", c.v.count(2), 0);
        });
        Check.sentence(5, "a rock: at the digit of its COLUMN", () -> {
            Check c = new Check();
            c.valley("33#...#...#", 9);
            c.people("0000", -2);
            c.people("1199", -2);
            c.people("0100;2200", -7);
            c.people("22", -2);
            c.people("2100", 1);
        });
        Check.sentence(5, "Nothing of it comes, if a LINE can't", () -> {
            Check c = new Check();
            c.people("0000;0100;0200;1000;1100;1200;2003", 7);
            c.people("0000;0009", -6);
            c.people("0000;", -6);
            Check.due("seven", c.v.count(2), 7);
            c.people("2204", 1);
            Check.due("the eighth", c.v.person(7, 0), 8);
        });
    }

    private static void peopleFull() {
        String eight = "0000;0100;0200;1000;1100;1200;2000;2204";
        Check.sentence(5, "the first sign of a LINE for which there is no room", () -> {
            Check c = new Check();
            c.people("0000;0000;0000;0000;0000;0000", 6);
            c.people("0000;0000;0000", -11);
            c.people("0000;0000;x", -11);
            c.people("0000;0000;9999", -11);
            c.people("0000;0000;", -11);
            c.people("0000;0000x", -10);
            c.people("0000;0000", 2);
            c.people("0000", -1);
            c.people("9", -1);
            c.people("x", -1);
            c.people("0".repeat(80), -1);
            c.people("", 0);
            Check.due("eight", c.v.count(2), 8);
        });
        Check.sentence(5, "39, if it has more and the first 39 could go on or end", () -> {
            Check c = new Check();
            c.people(eight + ";", -40);
            c.people(eight + "0", -40);
            c.people(eight + "x", -40);
            c.people(eight + ";0000", -40);
            c.people(eight + ";".repeat(41), -40);
            // if they could not, the sign that can't stand there
            c.people(eight.substring(0, 38) + "5;", -39);
            c.people("x" + eight, -1);
            Check.due("nobody", c.v.count(2), 0);
            c.people(eight, 8);
            c.people(0, 0, 1, 2, 3, 4, 5, 6, 8);
        });
    }

    private static void things() {
        String eight = "00;01;02;10;11;12;20;22";
        Check.sentence(6, "THE TEXT tells of THINGS (an empty one: nothing): how many LINES", () -> {
            Check c = new Check();
            c.things("", 0);
            Check.due("nothing", c.v.count(3), 0);
            c.things("21", 1);
            c.things("00;22", 2);
            c.things("", 0);
            Check.due("the first", c.v.thing(0, 0), 7);
            Check.due("the second", c.v.thing(1, 0), 0);
            Check.due("the third", c.v.thing(2, 0), 8);
        });
        Check.sentence(6, "-1 - p: likewise", () -> {
            Check c = new Check();
            c.valley("35#" + ".".repeat(14), 15);
            c.things("0", -2);
            c.things("00;", -4);
            c.things("00;0", -5);
            c.things("3", -1);
            c.things("30", -1);
            c.things("05", -2);
            c.things("00;30", -4);
            c.things("00;05", -5);
            c.things("000", -3);
            c.things("00x", -3);
            c.things(";", -1);
            c.things("x0", -1);
            c.things("0x", -2);
            Check.due("nothing of it comes", c.v.count(3), 0);
            c.things("24;00", 2);
            Check.due("on a rock", c.v.thing(1, 0), 0);
            c.things("00;00;00;00;00;00;00", -19);
            c.things("00;00;00;00;00;00;x", -19);
            c.things("00;00;00;00;00;00;", -19);
            c.things("00;00;00;00;00;00", 6);
            c.things("00", -1);
            c.things("x", -1);
            c.things("", 0);
            Check.due("eight", c.v.count(3), 8);
        });
        Check.sentence(6, "(23 signs)", () -> {
            Check c = new Check();
            c.things(eight + ";", -24);
            c.things(eight + "0", -24);
            c.things(eight + ";00", -24);
            c.things(eight + "x".repeat(57), -24);
            c.things(eight.substring(0, 22) + "3;", -23);
            Check.due("nothing", c.v.count(3), 0);
            c.things(eight, 8);
            Check.due("the last", c.v.thing(7, 0), 8);
        });
    }

    private static void light() {
        Check.sentence(7, "THE TEXT is LIGHT: how many signs", () -> {
            Check c = new Check();
            for (int n = 1; n <= 20; n++) {
                c.light("7".repeat(n - 1) + "3", n);
                Check.due("first", c.v.count(5), n == 1 ? 3 : 7);
            }
            c.light("0", 1);
            Check.due("dark", c.v.count(5), 0);
        });
        Check.sentence(7, "its end for none", () -> {
            Check c = new Check();
            c.light("", -1);
            Check.due("it stays", c.v.count(5), 9);
        });
        Check.sentence(7, "-1 - p: the sign at p can't stand there", () -> {
            Check c = new Check();
            for (String s : new String[] {"x", "/", ":", " ", "-", "" + (char) 0, "\u00b2"}) {
                c.light(s, -1);
                c.light("1" + s + "1", -2);
                c.light("1".repeat(19) + s, -20);
            }
            Check.due("it stays", c.v.count(5), 9);
        });
        Check.sentence(7, "a twenty-first sign: at it", () -> {
            Check c = new Check();
            c.light("1".repeat(21), -21);
            c.light("1".repeat(20) + "x", -21);
            c.light("1".repeat(22), -21);
            c.light("1".repeat(80), -21);
            Check.due("it stays", c.v.count(5), 9);
        });
    }

    private static void rule() {
        Check.sentence(8, "THE TEXT is THE RULE (an empty one: none): 0", () -> {
            Check c = Check.made(SMALL, "0001", "");
            c.rule("3", 0);
            Check.due("REACH", c.v.person(0, 4), 3);
            c.rule("", 0);
            Check.due("none", c.v.person(0, 4), 8);
        });
        Check.sentence(8, "-1 - p: the sign at p can't stand there", () -> {
            Check c = Check.made(SMALL, "0001", "");
            String[] things = {"x", "B", "L", "a", "+", "*", "/", "<", ">", "=", ")", " ", ".", "" + (char) 0, "\u00e2"};
            for (String s : things) {
                c.rule(s, -1);
                c.rule("-" + s, -2);
                c.rule("(" + s, -2);
                c.rule("1+" + s, -3);
                c.rule("1*" + s, -3);
                c.rule("1<" + s, -3);
            }
            String[] behind = {"x", "b", "(", " ", "!", "" + (char) 0, "\u00e2"};
            for (String s : behind) {
                c.rule("1" + s, -2);
                c.rule("b" + s, -2);
                c.rule("(1)" + s, -4);
                c.rule("1<2" + s, -4);
            }
            c.rule("b1", -2);
            Check.due("none came", c.v.person(0, 4), 8);
        });
        Check.sentence(8, "its end, if it ends too early", () -> {
            Check c = Check.made(SMALL, "0001", "");
            for (String s : new String[] {"-", "(", "1+", "1-", "1*", "1/", "1<", "1>", "1=", "(1", "((1)", "1+(", "1--"}) {
                c.rule(s, -1 - s.length());
            }
            c.rule("1+".repeat(20), -41);
            Check.due("none came", c.v.person(0, 4), 8);
        });
        Check.sentence(8, "40, if it has more and the first 40 could go on or end", () -> {
            Check c = Check.made(SMALL, "0001", "");
            String forty = "1+".repeat(19) + "22";
            c.rule(forty + "+", -41);
            c.rule(forty + "2", -41);
            c.rule(forty + "x", -41);
            c.rule(forty + ")", -41);
            c.rule("1+".repeat(20) + "1", -41);
            c.rule("1+".repeat(20) + "x", -41);
            c.rule("1+".repeat(40), -41);
            c.rule("(" + "1+".repeat(19) + "1)", -41);
            // if they could not, the sign that can't stand there
            c.rule("1+".repeat(19) + "1x1", -40);
            c.rule("x" + "1+".repeat(39), -1);
            Check.due("none came", c.v.person(0, 4), 8);
            c.rule(forty, 0);
            Check.due("40 signs", c.v.person(0, 4), 9);
        });
        Check.sentence(8, "-1 - p: the sign at p can't stand there", () -> {
            // what a refused text began is nothing to the next one, neither to THE RULE that stays
            String[] begun = {"-", "--", "9-", "9*-", "(", "((((", "(1<", "1<", "123x", "1<2<", "(((((", "1+(2-(3*"};
            for (String s : begun) {
                Check c = Check.made(SMALL, "0001", "");
                c.rule("4", 0);
                Twin.read(c.v, s, BonnetValley::rule);
                Check.due("THE RULE behind " + s, c.v.person(0, 4), 4);
                c.rule("5<6", 0);
                Check.due("5<6 behind " + s, c.v.person(0, 4), 1);
                Twin.read(c.v, s, BonnetValley::rule);
                c.rule("((((7))))", 0);
                Check.due("((((7)))) behind " + s, c.v.person(0, 4), 7);
                Twin.read(c.v, s, BonnetValley::law);
                c.rule("345-340", 0);
                Check.due("345-340 behind " + s, c.v.person(0, 4), 5);
                Twin.read(c.v, s, BonnetValley::law);
                c.law("2", 0);
                c.row("by REACH 2, by REACH 5", 7, 7);
                Check.due("THE RULE behind laws", c.v.person(0, 4), 5);
            }
        });
    }
}
